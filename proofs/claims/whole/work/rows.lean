section
-- ===== PART A: goes FIRST, ahead of the names: the tables' words, and 'selects' of the private methods out of them =====
/-- a private method of a class that the tables say can be made, by its rows of tables_1 -/
def lw_okq (q : MethodName × Nat) : Prop := (q.1.cls ≠ "java/lang/invoke/MethodHandle" ∧ q.1.cls ≠ "java/lang/invoke/VarHandle") ∧ Cond.instantiable q.1.cls q.2 ∈ tables_1 ∧ Cond.privateMethod q.1 ∈ tables_1 ∧ Cond.instanceMethod q.1 ∈ tables_1
theorem lw_p0 : lw_okq (⟨"java/lang/Throwable", "fillInStackTrace", "(I)Ljava/lang/Throwable;"⟩, 6) := ⟨⟨by decide +kernel, by decide +kernel⟩, List.mem_of_getElem? (i := 244) (by decide +kernel), List.mem_of_getElem? (i := 242) (by decide +kernel), List.mem_of_getElem? (i := 243) (by decide +kernel)⟩
theorem lw_p1 : lw_okq (⟨"NameRules", "requireTape", "()V"⟩, 15) := ⟨⟨by decide +kernel, by decide +kernel⟩, List.mem_of_getElem? (i := 19) (by decide +kernel), List.mem_of_getElem? (i := 306) (by decide +kernel), List.mem_of_getElem? (i := 307) (by decide +kernel)⟩
theorem lw_p2 : lw_okq (⟨"NameRules", "numberOf", "(LNameRules$Text;)I"⟩, 15) := ⟨⟨by decide +kernel, by decide +kernel⟩, List.mem_of_getElem? (i := 19) (by decide +kernel), List.mem_of_getElem? (i := 330) (by decide +kernel), List.mem_of_getElem? (i := 331) (by decide +kernel)⟩
theorem lw_p3 : lw_okq (⟨"NameRules", "buildFromTape", "()V"⟩, 15) := ⟨⟨by decide +kernel, by decide +kernel⟩, List.mem_of_getElem? (i := 19) (by decide +kernel), List.mem_of_getElem? (i := 371) (by decide +kernel), List.mem_of_getElem? (i := 372) (by decide +kernel)⟩
theorem lw_p4 : lw_okq (⟨"NameRules", "spaceOnTapeBefore", "(I)I"⟩, 15) := ⟨⟨by decide +kernel, by decide +kernel⟩, List.mem_of_getElem? (i := 19) (by decide +kernel), List.mem_of_getElem? (i := 380) (by decide +kernel), List.mem_of_getElem? (i := 381) (by decide +kernel)⟩
theorem lw_p5 : lw_okq (⟨"NameRules", "requireName", "(I)V"⟩, 15) := ⟨⟨by decide +kernel, by decide +kernel⟩, List.mem_of_getElem? (i := 19) (by decide +kernel), List.mem_of_getElem? (i := 402) (by decide +kernel), List.mem_of_getElem? (i := 403) (by decide +kernel)⟩
theorem lw_p6 : lw_okq (⟨"NameRules", "keepClash", "(III)V"⟩, 15) := ⟨⟨by decide +kernel, by decide +kernel⟩, List.mem_of_getElem? (i := 19) (by decide +kernel), List.mem_of_getElem? (i := 437) (by decide +kernel), List.mem_of_getElem? (i := 438) (by decide +kernel)⟩
theorem lw_p7 : lw_okq (⟨"NameRules", "buildLastLetters", "(LNameRules$Text;)V"⟩, 15) := ⟨⟨by decide +kernel, by decide +kernel⟩, List.mem_of_getElem? (i := 19) (by decide +kernel), List.mem_of_getElem? (i := 489) (by decide +kernel), List.mem_of_getElem? (i := 490) (by decide +kernel)⟩
theorem lw_p8 : lw_okq (⟨"NameRules", "requirePlace", "(I)V"⟩, 15) := ⟨⟨by decide +kernel, by decide +kernel⟩, List.mem_of_getElem? (i := 19) (by decide +kernel), List.mem_of_getElem? (i := 566) (by decide +kernel), List.mem_of_getElem? (i := 567) (by decide +kernel)⟩
theorem lw_p9 : lw_okq (⟨"NameRules", "isInSpace", "(II)Z"⟩, 15) := ⟨⟨by decide +kernel, by decide +kernel⟩, List.mem_of_getElem? (i := 19) (by decide +kernel), List.mem_of_getElem? (i := 575) (by decide +kernel), List.mem_of_getElem? (i := 576) (by decide +kernel)⟩
theorem lw_p10 : lw_okq (⟨"NameRules", "spaceOfTerm", "(I)I"⟩, 15) := ⟨⟨by decide +kernel, by decide +kernel⟩, List.mem_of_getElem? (i := 19) (by decide +kernel), List.mem_of_getElem? (i := 579) (by decide +kernel), List.mem_of_getElem? (i := 580) (by decide +kernel)⟩
theorem lw_p11 : lw_okq (⟨"NameRules", "rowsBefore", "(II)I"⟩, 15) := ⟨⟨by decide +kernel, by decide +kernel⟩, List.mem_of_getElem? (i := 19) (by decide +kernel), List.mem_of_getElem? (i := 583) (by decide +kernel), List.mem_of_getElem? (i := 584) (by decide +kernel)⟩
theorem lw_p12 : lw_okq (⟨"NameRules", "termText", "(I)LNameRules$Text;"⟩, 15) := ⟨⟨by decide +kernel, by decide +kernel⟩, List.mem_of_getElem? (i := 19) (by decide +kernel), List.mem_of_getElem? (i := 587) (by decide +kernel), List.mem_of_getElem? (i := 588) (by decide +kernel)⟩
theorem lw_p13 : lw_okq (⟨"NameRules", "markTermSpaces", "()V"⟩, 15) := ⟨⟨by decide +kernel, by decide +kernel⟩, List.mem_of_getElem? (i := 19) (by decide +kernel), List.mem_of_getElem? (i := 613) (by decide +kernel), List.mem_of_getElem? (i := 614) (by decide +kernel)⟩
theorem lw_p14 : lw_okq (⟨"NameRules", "isUnknown", "(I)Z"⟩, 15) := ⟨⟨by decide +kernel, by decide +kernel⟩, List.mem_of_getElem? (i := 19) (by decide +kernel), List.mem_of_getElem? (i := 618) (by decide +kernel), List.mem_of_getElem? (i := 619) (by decide +kernel)⟩
theorem lw_p15 : lw_okq (⟨"NameRules", "measureTerms", "(I)V"⟩, 15) := ⟨⟨by decide +kernel, by decide +kernel⟩, List.mem_of_getElem? (i := 19) (by decide +kernel), List.mem_of_getElem? (i := 643) (by decide +kernel), List.mem_of_getElem? (i := 644) (by decide +kernel)⟩
def lw_privs_1 : List (MethodName × Nat) := [(⟨"java/lang/Throwable", "fillInStackTrace", "(I)Ljava/lang/Throwable;"⟩, 6), (⟨"NameRules", "requireTape", "()V"⟩, 15), (⟨"NameRules", "numberOf", "(LNameRules$Text;)I"⟩, 15), (⟨"NameRules", "buildFromTape", "()V"⟩, 15), (⟨"NameRules", "spaceOnTapeBefore", "(I)I"⟩, 15), (⟨"NameRules", "requireName", "(I)V"⟩, 15), (⟨"NameRules", "keepClash", "(III)V"⟩, 15), (⟨"NameRules", "buildLastLetters", "(LNameRules$Text;)V"⟩, 15), (⟨"NameRules", "requirePlace", "(I)V"⟩, 15), (⟨"NameRules", "isInSpace", "(II)Z"⟩, 15), (⟨"NameRules", "spaceOfTerm", "(I)I"⟩, 15), (⟨"NameRules", "rowsBefore", "(II)I"⟩, 15), (⟨"NameRules", "termText", "(I)LNameRules$Text;"⟩, 15), (⟨"NameRules", "markTermSpaces", "()V"⟩, 15), (⟨"NameRules", "isUnknown", "(I)Z"⟩, 15), (⟨"NameRules", "measureTerms", "(I)V"⟩, 15)]
theorem lw_r1 : ∀ q ∈ lw_privs_1, lw_okq q := List.forall_mem_cons.mpr ⟨lw_p0, List.forall_mem_cons.mpr ⟨lw_p1, List.forall_mem_cons.mpr ⟨lw_p2, List.forall_mem_cons.mpr ⟨lw_p3, List.forall_mem_cons.mpr ⟨lw_p4, List.forall_mem_cons.mpr ⟨lw_p5, List.forall_mem_cons.mpr ⟨lw_p6, List.forall_mem_cons.mpr ⟨lw_p7, List.forall_mem_cons.mpr ⟨lw_p8, List.forall_mem_cons.mpr ⟨lw_p9, List.forall_mem_cons.mpr ⟨lw_p10, List.forall_mem_cons.mpr ⟨lw_p11, List.forall_mem_cons.mpr ⟨lw_p12, List.forall_mem_cons.mpr ⟨lw_p13, List.forall_mem_cons.mpr ⟨lw_p14, List.forall_mem_cons.mpr ⟨lw_p15, fun _ h => absurd h List.not_mem_nil⟩⟩⟩⟩⟩⟩⟩⟩⟩⟩⟩⟩⟩⟩⟩⟩
theorem lw_p16 : lw_okq (⟨"NameRules", "rowsNearer", "(I)I"⟩, 15) := ⟨⟨by decide +kernel, by decide +kernel⟩, List.mem_of_getElem? (i := 19) (by decide +kernel), List.mem_of_getElem? (i := 647) (by decide +kernel), List.mem_of_getElem? (i := 648) (by decide +kernel)⟩
theorem lw_p17 : lw_okq (⟨"NameRules", "buildBesides", "(LNameRules$Text;LNameRules$Text;)V"⟩, 15) := ⟨⟨by decide +kernel, by decide +kernel⟩, List.mem_of_getElem? (i := 19) (by decide +kernel), List.mem_of_getElem? (i := 685) (by decide +kernel), List.mem_of_getElem? (i := 686) (by decide +kernel)⟩
theorem lw_p18 : lw_okq (⟨"NameRules", "buildWithin", "(LNameRules$Text;LNameRules$Text;)V"⟩, 15) := ⟨⟨by decide +kernel, by decide +kernel⟩, List.mem_of_getElem? (i := 19) (by decide +kernel), List.mem_of_getElem? (i := 693) (by decide +kernel), List.mem_of_getElem? (i := 694) (by decide +kernel)⟩
theorem lw_p19 : lw_okq (⟨"NameRules", "renameClashes", "(II)Z"⟩, 15) := ⟨⟨by decide +kernel, by decide +kernel⟩, List.mem_of_getElem? (i := 19) (by decide +kernel), List.mem_of_getElem? (i := 705) (by decide +kernel), List.mem_of_getElem? (i := 706) (by decide +kernel)⟩
theorem lw_p20 : lw_okq (⟨"NameRules", "moveUses", "(II)I"⟩, 15) := ⟨⟨by decide +kernel, by decide +kernel⟩, List.mem_of_getElem? (i := 19) (by decide +kernel), List.mem_of_getElem? (i := 730) (by decide +kernel), List.mem_of_getElem? (i := 731) (by decide +kernel)⟩
theorem lw_p21 : lw_okq (⟨"NameRules", "unknownNames", "()I"⟩, 15) := ⟨⟨by decide +kernel, by decide +kernel⟩, List.mem_of_getElem? (i := 19) (by decide +kernel), List.mem_of_getElem? (i := 783) (by decide +kernel), List.mem_of_getElem? (i := 784) (by decide +kernel)⟩
theorem lw_p22 : lw_okq (⟨"NameRulesModel", "refuses", "(I)Z"⟩, 19) := ⟨⟨by decide +kernel, by decide +kernel⟩, List.mem_of_getElem? (i := 788) (by decide +kernel), List.mem_of_getElem? (i := 860) (by decide +kernel), List.mem_of_getElem? (i := 861) (by decide +kernel)⟩
theorem lw_p23 : lw_okq (⟨"NameRulesModel", "begin", "()V"⟩, 19) := ⟨⟨by decide +kernel, by decide +kernel⟩, List.mem_of_getElem? (i := 788) (by decide +kernel), List.mem_of_getElem? (i := 872) (by decide +kernel), List.mem_of_getElem? (i := 873) (by decide +kernel)⟩
theorem lw_p24 : lw_okq (⟨"NameRulesModel", "makes", "(I)V"⟩, 19) := ⟨⟨by decide +kernel, by decide +kernel⟩, List.mem_of_getElem? (i := 788) (by decide +kernel), List.mem_of_getElem? (i := 876) (by decide +kernel), List.mem_of_getElem? (i := 877) (by decide +kernel)⟩
theorem lw_p25 : lw_okq (⟨"NameRulesModel", "isTooMuch", "()Z"⟩, 19) := ⟨⟨by decide +kernel, by decide +kernel⟩, List.mem_of_getElem? (i := 788) (by decide +kernel), List.mem_of_getElem? (i := 880) (by decide +kernel), List.mem_of_getElem? (i := 881) (by decide +kernel)⟩
theorem lw_p26 : lw_okq (⟨"NameRulesModel", "found", "()I"⟩, 19) := ⟨⟨by decide +kernel, by decide +kernel⟩, List.mem_of_getElem? (i := 788) (by decide +kernel), List.mem_of_getElem? (i := 884) (by decide +kernel), List.mem_of_getElem? (i := 885) (by decide +kernel)⟩
theorem lw_p27 : lw_okq (⟨"NameRulesModel", "at", "(II)I"⟩, 19) := ⟨⟨by decide +kernel, by decide +kernel⟩, List.mem_of_getElem? (i := 788) (by decide +kernel), List.mem_of_getElem? (i := 888) (by decide +kernel), List.mem_of_getElem? (i := 889) (by decide +kernel)⟩
theorem lw_p28 : lw_okq (⟨"NameRulesModel", "comes", "()I"⟩, 19) := ⟨⟨by decide +kernel, by decide +kernel⟩, List.mem_of_getElem? (i := 788) (by decide +kernel), List.mem_of_getElem? (i := 892) (by decide +kernel), List.mem_of_getElem? (i := 893) (by decide +kernel)⟩
theorem lw_p29 : lw_okq (⟨"NameRulesModel", "told", "()Z"⟩, 19) := ⟨⟨by decide +kernel, by decide +kernel⟩, List.mem_of_getElem? (i := 788) (by decide +kernel), List.mem_of_getElem? (i := 900) (by decide +kernel), List.mem_of_getElem? (i := 901) (by decide +kernel)⟩
theorem lw_p30 : lw_okq (⟨"NameRulesModel", "no", "(I)Z"⟩, 19) := ⟨⟨by decide +kernel, by decide +kernel⟩, List.mem_of_getElem? (i := 788) (by decide +kernel), List.mem_of_getElem? (i := 908) (by decide +kernel), List.mem_of_getElem? (i := 909) (by decide +kernel)⟩
theorem lw_p31 : lw_okq (⟨"NameRulesModel", "canBeShort", "(I)Z"⟩, 19) := ⟨⟨by decide +kernel, by decide +kernel⟩, List.mem_of_getElem? (i := 788) (by decide +kernel), List.mem_of_getElem? (i := 912) (by decide +kernel), List.mem_of_getElem? (i := 913) (by decide +kernel)⟩
def lw_privs_2 : List (MethodName × Nat) := [(⟨"NameRules", "rowsNearer", "(I)I"⟩, 15), (⟨"NameRules", "buildBesides", "(LNameRules$Text;LNameRules$Text;)V"⟩, 15), (⟨"NameRules", "buildWithin", "(LNameRules$Text;LNameRules$Text;)V"⟩, 15), (⟨"NameRules", "renameClashes", "(II)Z"⟩, 15), (⟨"NameRules", "moveUses", "(II)I"⟩, 15), (⟨"NameRules", "unknownNames", "()I"⟩, 15), (⟨"NameRulesModel", "refuses", "(I)Z"⟩, 19), (⟨"NameRulesModel", "begin", "()V"⟩, 19), (⟨"NameRulesModel", "makes", "(I)V"⟩, 19), (⟨"NameRulesModel", "isTooMuch", "()Z"⟩, 19), (⟨"NameRulesModel", "found", "()I"⟩, 19), (⟨"NameRulesModel", "at", "(II)I"⟩, 19), (⟨"NameRulesModel", "comes", "()I"⟩, 19), (⟨"NameRulesModel", "told", "()Z"⟩, 19), (⟨"NameRulesModel", "no", "(I)Z"⟩, 19), (⟨"NameRulesModel", "canBeShort", "(I)Z"⟩, 19)]
theorem lw_r2 : ∀ q ∈ lw_privs_2, lw_okq q := List.forall_mem_cons.mpr ⟨lw_p16, List.forall_mem_cons.mpr ⟨lw_p17, List.forall_mem_cons.mpr ⟨lw_p18, List.forall_mem_cons.mpr ⟨lw_p19, List.forall_mem_cons.mpr ⟨lw_p20, List.forall_mem_cons.mpr ⟨lw_p21, List.forall_mem_cons.mpr ⟨lw_p22, List.forall_mem_cons.mpr ⟨lw_p23, List.forall_mem_cons.mpr ⟨lw_p24, List.forall_mem_cons.mpr ⟨lw_p25, List.forall_mem_cons.mpr ⟨lw_p26, List.forall_mem_cons.mpr ⟨lw_p27, List.forall_mem_cons.mpr ⟨lw_p28, List.forall_mem_cons.mpr ⟨lw_p29, List.forall_mem_cons.mpr ⟨lw_p30, List.forall_mem_cons.mpr ⟨lw_p31, fun _ h => absurd h List.not_mem_nil⟩⟩⟩⟩⟩⟩⟩⟩⟩⟩⟩⟩⟩⟩⟩⟩
theorem lw_p32 : lw_okq (⟨"NameRulesModel", "clashes", "(III)V"⟩, 19) := ⟨⟨by decide +kernel, by decide +kernel⟩, List.mem_of_getElem? (i := 788) (by decide +kernel), List.mem_of_getElem? (i := 916) (by decide +kernel), List.mem_of_getElem? (i := 917) (by decide +kernel)⟩
theorem lw_p33 : lw_okq (⟨"NameRulesModel", "spaceOf", "(I)I"⟩, 19) := ⟨⟨by decide +kernel, by decide +kernel⟩, List.mem_of_getElem? (i := 788) (by decide +kernel), List.mem_of_getElem? (i := 924) (by decide +kernel), List.mem_of_getElem? (i := 925) (by decide +kernel)⟩
theorem lw_p34 : lw_okq (⟨"NameRulesModel", "goesOn", "(II)Z"⟩, 19) := ⟨⟨by decide +kernel, by decide +kernel⟩, List.mem_of_getElem? (i := 788) (by decide +kernel), List.mem_of_getElem? (i := 928) (by decide +kernel), List.mem_of_getElem? (i := 929) (by decide +kernel)⟩
theorem lw_p35 : lw_okq (⟨"NameRulesModel", "isSpace", "(I)Z"⟩, 19) := ⟨⟨by decide +kernel, by decide +kernel⟩, List.mem_of_getElem? (i := 788) (by decide +kernel), List.mem_of_getElem? (i := 932) (by decide +kernel), List.mem_of_getElem? (i := 933) (by decide +kernel)⟩
theorem lw_p36 : lw_okq (⟨"NameRulesModel", "bestOf", "(I)I"⟩, 19) := ⟨⟨by decide +kernel, by decide +kernel⟩, List.mem_of_getElem? (i := 788) (by decide +kernel), List.mem_of_getElem? (i := 940) (by decide +kernel), List.mem_of_getElem? (i := 941) (by decide +kernel)⟩
theorem lw_p37 : lw_okq (⟨"NameRulesModel", "isBefore", "(II)Z"⟩, 19) := ⟨⟨by decide +kernel, by decide +kernel⟩, List.mem_of_getElem? (i := 788) (by decide +kernel), List.mem_of_getElem? (i := 944) (by decide +kernel), List.mem_of_getElem? (i := 945) (by decide +kernel)⟩
theorem lw_p38 : lw_okq (⟨"NameRulesModel", "isTaken", "()Z"⟩, 19) := ⟨⟨by decide +kernel, by decide +kernel⟩, List.mem_of_getElem? (i := 788) (by decide +kernel), List.mem_of_getElem? (i := 955) (by decide +kernel), List.mem_of_getElem? (i := 956) (by decide +kernel)⟩
theorem lw_p39 : lw_okq (⟨"NameRulesModel", "rowOf", "(I)I"⟩, 19) := ⟨⟨by decide +kernel, by decide +kernel⟩, List.mem_of_getElem? (i := 788) (by decide +kernel), List.mem_of_getElem? (i := 971) (by decide +kernel), List.mem_of_getElem? (i := 972) (by decide +kernel)⟩
theorem lw_p40 : lw_okq (⟨"NameRulesModel", "isUnknown", "(I)Z"⟩, 19) := ⟨⟨by decide +kernel, by decide +kernel⟩, List.mem_of_getElem? (i := 788) (by decide +kernel), List.mem_of_getElem? (i := 995) (by decide +kernel), List.mem_of_getElem? (i := 996) (by decide +kernel)⟩
theorem lw_p41 : lw_okq (⟨"NameRulesModel", "distance", "(II)I"⟩, 19) := ⟨⟨by decide +kernel, by decide +kernel⟩, List.mem_of_getElem? (i := 788) (by decide +kernel), List.mem_of_getElem? (i := 1003) (by decide +kernel), List.mem_of_getElem? (i := 1004) (by decide +kernel)⟩
theorem lw_p42 : lw_okq (⟨"NameRulesModel", "comesTo", "(II)Z"⟩, 19) := ⟨⟨by decide +kernel, by decide +kernel⟩, List.mem_of_getElem? (i := 788) (by decide +kernel), List.mem_of_getElem? (i := 1015) (by decide +kernel), List.mem_of_getElem? (i := 1016) (by decide +kernel)⟩
theorem lw_p43 : lw_okq (⟨"NameRulesModel", "canNotRename", "(II)Z"⟩, 19) := ⟨⟨by decide +kernel, by decide +kernel⟩, List.mem_of_getElem? (i := 788) (by decide +kernel), List.mem_of_getElem? (i := 1031) (by decide +kernel), List.mem_of_getElem? (i := 1032) (by decide +kernel)⟩
def lw_privs_3 : List (MethodName × Nat) := [(⟨"NameRulesModel", "clashes", "(III)V"⟩, 19), (⟨"NameRulesModel", "spaceOf", "(I)I"⟩, 19), (⟨"NameRulesModel", "goesOn", "(II)Z"⟩, 19), (⟨"NameRulesModel", "isSpace", "(I)Z"⟩, 19), (⟨"NameRulesModel", "bestOf", "(I)I"⟩, 19), (⟨"NameRulesModel", "isBefore", "(II)Z"⟩, 19), (⟨"NameRulesModel", "isTaken", "()Z"⟩, 19), (⟨"NameRulesModel", "rowOf", "(I)I"⟩, 19), (⟨"NameRulesModel", "isUnknown", "(I)Z"⟩, 19), (⟨"NameRulesModel", "distance", "(II)I"⟩, 19), (⟨"NameRulesModel", "comesTo", "(II)Z"⟩, 19), (⟨"NameRulesModel", "canNotRename", "(II)Z"⟩, 19)]
theorem lw_r3 : ∀ q ∈ lw_privs_3, lw_okq q := List.forall_mem_cons.mpr ⟨lw_p32, List.forall_mem_cons.mpr ⟨lw_p33, List.forall_mem_cons.mpr ⟨lw_p34, List.forall_mem_cons.mpr ⟨lw_p35, List.forall_mem_cons.mpr ⟨lw_p36, List.forall_mem_cons.mpr ⟨lw_p37, List.forall_mem_cons.mpr ⟨lw_p38, List.forall_mem_cons.mpr ⟨lw_p39, List.forall_mem_cons.mpr ⟨lw_p40, List.forall_mem_cons.mpr ⟨lw_p41, List.forall_mem_cons.mpr ⟨lw_p42, List.forall_mem_cons.mpr ⟨lw_p43, fun _ h => absurd h List.not_mem_nil⟩⟩⟩⟩⟩⟩⟩⟩⟩⟩⟩⟩
def lw_privs : List (MethodName × Nat) := lw_privs_1 ++ (lw_privs_2 ++ (lw_privs_3))
def lw_tbl : List Cond := k2_sels lw_privs ++ tables_1
theorem lw_privs_ok : ∀ q ∈ lw_privs, lw_okq q := by
  show ∀ q ∈ lw_privs_1 ++ (lw_privs_2 ++ (lw_privs_3)), lw_okq q
  exact List.forall_mem_append.mpr ⟨lw_r1, List.forall_mem_append.mpr ⟨lw_r2, lw_r3⟩⟩
end
section
/-! ===== BEGIN words of one list among another's, by their places ===== -/
theorem goodIn_r {big : List Cond} (ws : List Cond) (ps : List Nat) (hp : ws = ps.filterMap (fun i => big[i]?)) (h : ws.all goodWord = true) : GoodIn big ws := by
  intro w hw
  have h1 := List.all_eq_true.mp h w hw
  rw [hp] at hw
  obtain ⟨i, -, hi⟩ := List.mem_filterMap.mp hw
  have hm : w ∈ big := by first | exact List.mem_of_getElem? hi | exact List.getElem?_mem hi
  exact ⟨hm, good_of_word h1⟩
theorem goodIn_app {big a b : List Cond} (ha : GoodIn big a) (hb : GoodIn big b) : GoodIn big (a ++ b) := fun w h => (List.mem_append.mp h).elim (ha w) (hb w)
theorem goodIn_ca {big a b : List Cond} {c : Cond} (ha : GoodIn big (c :: a)) (hb : GoodIn big b) : GoodIn big (c :: (a ++ b)) := fun w h => (List.mem_cons.mp h).elim (fun e => ha w (List.mem_cons.mpr (Or.inl e))) (fun h => (List.mem_append.mp h).elim (fun h => ha w (List.mem_cons.mpr (Or.inr h))) (hb w))
theorem goodIn_sub {big ws : List Cond} (hm : ∀ w ∈ ws, w ∈ big) (h : ws.all goodWord = true) : GoodIn big ws := fun w hw => ⟨hm w hw, good_of_word (List.all_eq_true.mp h w hw)⟩
/-! ===== END ===== -/

/-! ===== BEGIN exceptions that leave a method, and their catching by the caller (launches without stack traces) ===== -/
section VXA
/-! The laws vx_back, vx_callV, vx_callS, vx_callSW, vx_throw0, vx_throwS follow proofs of the library, with one case more: JvmDerived/Free/Laws.lean (Back.of_free), Shelf42/LK1.lean (callV, callS), Shelf/KitTraced.lean (throwNew0V, throwNewS). -/
/-- where a method has thrown q: the class by its name, the cell, what was written, the world -/
def vx_T (XC : String → State → State → Prop) (st : State) (q : Addr) (t : State) (mc ms : Nat) (free : Addr → Prop) : Prop :=
  ∃ (E : String) (ce : Cell) (L : List Loc), XC E st t ∧ t.heap[q]? = some ce ∧ ce.vm = .none ∧ st.vm.findClass E = some ce.cls ∧ st.WarmedH t.vm ∧ st.sameButNew ({ t with vm := st.vm } : State) L mc ms ∧ ∀ z ∈ L, free z.base
def vx_Q (Qc : Array Value → State → Outcome → State → Prop) (XC : String → State → State → Prop) (mc ms : Nat) (free : Addr → Prop) : Array Value → State → Outcome → State → Prop := fun a st o t =>
  (Qc a st o t ∧ ∃ L, FrameEnd st o t L mc ms ∧ ∀ q ∈ L, free q.base) ∨ ∃ q, o = .threw q ∧ vx_T XC st q t mc ms free
/-- a callee that returns or throws -/
def vx_Met (l : Launch) (y : MethodName) (ws : List Cond) (rm : Room) (Pc : Array Value → State → Prop) (Qc : Array Value → State → Outcome → State → Prop) (XC : String → State → State → Prop) (mc ms : Nat) (free : Addr → Prop) : Prop :=
  MetFree l y (headSpec ws rm) Pc (fun _ _ _ _ _ => True) (vx_Q Qc XC mc ms free)
def vx_Post (XC : String → State → State → Prop) (mc ms : Nat) (free : Addr → Prop) : Pt → Array Value → Addr → Pt → Prop := fun A a q B =>
  ∃ (g : JFrame) (mk : MethodId) (t : State) (L : List Loc) (E : String) (ce : Cell), B.U.heap = t.heap ∧ B.U.vm = t.vm ∧ XC E (A.U.calling g mk a) t ∧ t.heap[q]? = some ce ∧ ce.vm = .none ∧ A.U.vm.findClass E = some ce.cls ∧ B.locs = A.locs ++ L ∧ (∀ z ∈ L, free z.base) ∧ B.cells = A.cells + mc ∧ B.slots = A.slots + ms
def vx_Back (l : Launch) (R : Room) (p : Program) (e : Env) (below : List Frame) (s : State) (sargs : Array Value) (y : MethodName) (len W9 : Nat)
    (Pre : Pt → Array Value → Prop) (Post : Pt → Array Value → Option Value → Pt → Prop) (PostX : Pt → Array Value → Addr → Pt → Prop) : Prop :=
  ∀ (m : MethodId) (meth : Method) (c : Code) (A : Pt) (g : JFrame) (ig : Instr) (mk : MethodId) (a : Array Value),
    Stand p l e R s m sargs below meth c A.U A.locs A.cells A.slots → g.method = m → g.locals.size = c.maxLocals → decode c.code g.pc = .ok (ig, len) →
    2 * g.monitorRoom + (g.stack.map fun v => v.category).sum ≤ W9 → A.U.methodNamed? y = some mk → Pre A a →
    (∃ (v : Option Value) (B : Pt), Stand p l e R s m sargs below meth c B.U B.locs B.cells B.slots ∧ Post A a v B ∧
      Steps p.tables e below (doInvoke e (A.U.setTop g) [] mk a).1 (B.U.setTop { g with pc := g.pc + len, stack := v.toList ++ g.stack })) ∨
    (∃ (q : Addr) (B : Pt), Stand p l e R s m sargs below meth c B.U B.locs B.cells B.slots ∧ PostX A a q B ∧
      Steps p.tables e below (doInvoke e (A.U.setTop g) [] mk a).1 ((B.U.setTop g).pushFrame (.throwing q)))
section Payer
variable {l : Launch} {R : Room} {p : Program} {e : Env} {below : List Frame} {s : State} {sargs : Array Value} {y : MethodName} {len W9 : Nat}
theorem vx_back {ws : List Cond} {rm : Room} {Pc : Array Value → State → Prop} {Qc : Array Value → State → Outcome → State → Prop} {XC : String → State → State → Prop} {mc ms : Nat} {free : Addr → Prop} {bytes : ByteArray} {maxL : Nat} {ret : Option FieldType}
    (hM : vx_Met l y ws rm Pc Qc XC mc ms free) (hblind : FrameBlind Pc) (hrc : rm.cells = mc) (hrs : rm.slots = ms)
    (hframes : rm.frames + 1 ≤ R.frames) (hlocals : W9 + (maxL + 11) + rm.locals ≤ R.locals)
    (hws : ∀ w ∈ ws, ∀ a' U, s.WarmedH U.vm → w.before a' U = true) (hcode : Cond.code y bytes maxL ret ∈ ws) (hinit : ∀ a' U, s.WarmedH U.vm → (Cond.initialized y.cls).before a' U = true) :
    vx_Back l R p e below s sargs y len W9 (PreOf R mc ms Pc) (PostOf Qc mc ms free) (vx_Post XC mc ms free) := by
  intro m meth c A g ig mk a X hg hsize hdg hW hn hp
  have h1 : (headSpec ws rm).pre.before a A.U = true := atoms_intro fun w hw => hws w hw _ _ X.warmed
  have h2 : (Cond.code y bytes maxL ret).before a A.U = true := hws _ hcode _ _ X.warmed
  have h3 : (Cond.initialized y.cls).before a A.U = true := hinit _ _ X.warmed
  have h4 : A.cells + (headSpec ws rm).room.cells ≤ R.cells := by rw [show (headSpec ws rm).room.cells = mc from hrc]; exact hp.1
  have h5 : A.slots + (headSpec ws rm).room.slots ≤ R.slots := by rw [show (headSpec ws rm).room.slots = ms from hrs]; exact hp.2.1
  have hPc : Pc a (A.U.calling g mk a) := hblind _ _ _ _ hp.2.2
  obtain ⟨U, Ls, c0, s0⟩ := A
  dsimp only [Pt.U, Pt.locs, Pt.cells, Pt.slots] at h1 h2 h3 h4 h5 X hn hPc ⊢
  obtain ⟨methY, cY, hmY, hcY, -, hlY, -, -, -, -⟩ := Cond.code_spec hn h2
  obtain ⟨kY, hkY, -⟩ := className_of_methodNamed hn
  have hinitY : kY.init = .initialized := Cond.initialized_spec (findClass_of_methodNamed hn) hkY h3
  have h : At U g.method c below := by rw [hg]; exact X.here
  have hlocals9 : W9 + (maxL + 11) + (headSpec ws rm).room.locals ≤ R.locals := hlocals
  have happ : (headSpec ws rm).appliesLoose y e.platform (U.calling g mk a) = true :=
    Spec.appliesLoose_calling (g := g) h hdg hn hkY hinitY
      (X.room_calling (g := g) (R' := (headSpec ws rm).room) hsize hmY hcY hframes (by rw [hlY]; omega) h4 h5) h1
  obtain ⟨mid, hmid⟩ := h.above
  have hfr : (U.setTop g).frames = (.java g :: mid) ++ below := by rw [State.frames_setTop' g h.top, hmid]; rfl
  obtain ⟨o, s₂, hsteps, -, hend, hq⟩ := Steps.callFree hM p X.admits X.cas X.clock (acts := []) hfr happ hPc trivial
  have hq' : vx_Q Qc XC mc ms free a (U.calling g mk a) o s₂ := hq
  rw [State.frames_setTop' g h.top] at hend
  obtain ⟨g₀, hg0⟩ := Option.isSome_iff_exists.mp h.top
  obtain ⟨r, hr⟩ := State.topJava?_eq_some.mp hg0
  have hr' : (({ U with heap := s₂.heap, slotsUsed := s₂.slotsUsed } : State).setVm s₂.vm).frames = .java g₀ :: r := hr
  rcases hq' with ⟨hqc, L, hfe, hL⟩ | ⟨q, rfl, E, ce, L, hx, hce, hcv, hcl, hW₂, hsm, hL⟩
  · obtain ⟨⟨v, rfl⟩, hW₂, e2, q2, q3, q4, q5, q6⟩ := id hfe
    have e3 : s₂ = ({ (U.calling g mk a).setFrames s₂.frames with heap := s₂.heap, slotsUsed := s₂.slotsUsed } : State).setVm s₂.vm := by
      have : s₂ = ({ s₂ with vm := (U.calling g mk a).vm } : State).setVm s₂.vm := rfl
      rw [e2] at this
      exact this
    obtain ⟨c₂, i₂, len₂, hc₂, hd₂, hf₂⟩ := hend
    have hW' : U.WarmedH s₂.vm := hW₂
    have hcc : c₂ = c := by
      have h1 : s₂.code? g.method = U.code? g.method := by
        rw [State.code?_eq, State.code?_eq, hW'.alike.method?]
      exact Option.some.inj (hc₂.symm.trans (h1.trans h.code))
    subst hcc
    have hlen : len₂ = len := by rw [hdg] at hd₂; cases hd₂; rfl
    subst hlen
    have hs₂ : s₂ = (({ U with heap := s₂.heap, slotsUsed := s₂.slotsUsed } : State).setVm s₂.vm).setTop { g with pc := g.pc + len₂, stack := v.toList ++ g.stack } := by
      refine e3.trans ?_
      rw [hf₂, State.calling_eq h.top, State.setFrames_setFrames, State.setTop_of_frames _ hr', hr]
      rfl
    have hsame : U.sameButNew ({ U with heap := s₂.heap, slotsUsed := s₂.slotsUsed } : State) L mc ms := by
      refine ⟨?_, q2, q3, q4, q5, q6⟩
      obtain ⟨t, ht, -⟩ := State.frames_cons hr
      show ({ U with heap := s₂.heap, slotsUsed := s₂.slotsUsed } : State) = { U.setFrames U.frames with heap := s₂.heap, slotsUsed := s₂.slotsUsed }
      rw [State.setFrames_self ht]
    subst hg
    refine Or.inl ⟨v, ⟨(({ U with heap := s₂.heap, slotsUsed := s₂.slotsUsed } : State).setVm s₂.vm), Ls ++ L, c0 + mc, s0 + ms⟩,
      ⟨X.admits, X.cas, X.clock, X.frames, X.room, X.hears, X.method, X.code, (X.here.setHeapUsed s₂.heap s₂.slotsUsed).setVm hW'.alike, X.tail, State.WarmedH.trans X.warmed hW', X.limits, X.bytes, X.same.trans (hsame.setVm s.vm)⟩,
      ⟨g, mk, s₂, L, rfl, rfl, hqc, rfl, hL, rfl, rfl⟩, ?_⟩
    show Steps p.tables e below _ ((({ U with heap := s₂.heap, slotsUsed := s₂.slotsUsed } : State).setVm s₂.vm).setTop { g with pc := g.pc + len₂, stack := v.toList ++ g.stack })
    rw [← hs₂]
    exact hsteps
  · obtain ⟨e2, q2, q3, q4, q5, q6⟩ := id hsm
    have e3 : s₂ = ({ (U.calling g mk a).setFrames s₂.frames with heap := s₂.heap, slotsUsed := s₂.slotsUsed } : State).setVm s₂.vm := by
      have : s₂ = ({ s₂ with vm := (U.calling g mk a).vm } : State).setVm s₂.vm := rfl
      rw [e2] at this
      exact this
    have hf₂ : s₂.frames = .throwing q :: .java g :: U.frames.tail := hend
    have hW' : U.WarmedH s₂.vm := hW₂
    have hs₂ : s₂ = ((({ U with heap := s₂.heap, slotsUsed := s₂.slotsUsed } : State).setVm s₂.vm).setTop g).pushFrame (.throwing q) := by
      refine e3.trans ?_
      rw [hf₂, State.calling_eq h.top, State.setFrames_setFrames, State.pushFrame, State.frames_setTop _ hr', State.setTop_of_frames _ hr', State.setFrames_setFrames, hr]
      rfl
    have hsame : U.sameButNew ({ U with heap := s₂.heap, slotsUsed := s₂.slotsUsed } : State) L mc ms := by
      refine ⟨?_, q2, q3, q4, q5, q6⟩
      obtain ⟨t, ht, -⟩ := State.frames_cons hr
      show ({ U with heap := s₂.heap, slotsUsed := s₂.slotsUsed } : State) = { U.setFrames U.frames with heap := s₂.heap, slotsUsed := s₂.slotsUsed }
      rw [State.setFrames_self ht]
    subst hg
    refine Or.inr ⟨q, ⟨(({ U with heap := s₂.heap, slotsUsed := s₂.slotsUsed } : State).setVm s₂.vm), Ls ++ L, c0 + mc, s0 + ms⟩,
      ⟨X.admits, X.cas, X.clock, X.frames, X.room, X.hears, X.method, X.code, (X.here.setHeapUsed s₂.heap s₂.slotsUsed).setVm hW'.alike, X.tail, State.WarmedH.trans X.warmed hW', X.limits, X.bytes, X.same.trans (hsame.setVm s.vm)⟩,
      ⟨g, mk, s₂, L, E, ce, rfl, rfl, hx, hce, hcv, hcl, rfl, hL, rfl, rfl⟩, ?_⟩
    show Steps p.tables e below _ (((({ U with heap := s₂.heap, slotsUsed := s₂.slotsUsed } : State).setVm s₂.vm).setTop g).pushFrame (.throwing q))
    rw [← hs₂]
    exact hsteps
end Payer
section Calls
variable {p : Program} {l : Launch} {e : Env} {R : Room} {s : State} {m : MethodId} {args : Array Value} {below : List Frame} {meth : Method} {c : Code} {T : State} {locs : List Loc} {cells slots : Nat}
theorem vx_callV (X : Stand p l e R s m args below meth c T locs cells slots) (hexec : p.tables.exec = Jvm.exec) {own C : String} {index : Nat} {y : MethodName} {bytes : ByteArray} {maxL : Nat} {ret : Option FieldType}
    (hown : s.vm.findClass own = some m.cls) (hlink : (Cond.methodLink own index y).before args s = true) (hinst : (Cond.instanceMethod y).before args s = true) (hsel : (Cond.selects C y y).before args s = true)
    (hcode : (Cond.code y bytes maxL ret).before args s = true) (hy : y.cls ≠ "java/lang/invoke/MethodHandle" ∧ y.cls ≠ "java/lang/invoke/VarHandle")
    {W9 : Nat} {Pre : Pt → Array Value → Prop} {Post : Pt → Array Value → Option Value → Pt → Prop} {PostX : Pt → Array Value → Addr → Pt → Prop} (hK : vx_Back l R p e below s args y 3 W9 Pre Post PostX)
    {b : Addr} {cellB : Cell} (hcell : T.heap[b]? = some cellB) (hobj : cellB.vm.isStatics = false) (hcls : s.vm.findClass C = some cellB.cls)
    {g : JFrame} (hg : g.method = m) (hsize : g.locals.size = c.maxLocals) {argsL rest : List Value} (hlen : ∀ sig, parseMethodDescriptor y.desc = some sig → argsL.length = sig.parameters.length)
    (hstack : g.stack = argsL.reverse ++ .ref b :: rest) (hW : 2 * g.monitorRoom + (rest.map fun v => v.category).sum ≤ W9) (hdg : decode c.code g.pc = .ok (.invokevirtual index, 3))
    (hpre : ∀ vm₁, s.WarmedH vm₁ → Pre ⟨T.setVm vm₁, locs, cells, slots⟩ (Value.ref b :: argsL).toArray) :
    (∃ (v : Option Value) (vm₁ : Vm) (B : Pt), s.WarmedH vm₁ ∧ Stand p l e R s m args below meth c B.U B.locs B.cells B.slots ∧ Post ⟨T.setVm vm₁, locs, cells, slots⟩ (Value.ref b :: argsL).toArray v B ∧
      ∀ target, Steps p.tables e below (B.U.setTop { g with pc := g.pc + 3, stack := v.toList ++ rest }) target → Steps p.tables e below (T.setTop g) target) ∨
    (∃ (q : Addr) (vm₁ : Vm) (B : Pt), s.WarmedH vm₁ ∧ Stand p l e R s m args below meth c B.U B.locs B.cells B.slots ∧ PostX ⟨T.setVm vm₁, locs, cells, slots⟩ (Value.ref b :: argsL).toArray q B ∧
      Steps p.tables e below (T.setTop g) ((B.U.setTop { g with stack := rest }).pushFrame (.throwing q))) := by
  obtain ⟨mk, methM, hnamed, hmethM, hstM, habM⟩ := Cond.instanceMethod_spec hinst
  obtain ⟨methM', cM, hmethM', -, -, -, -, -, -, hsigM⟩ := Cond.code_spec hnamed hcode
  cases hmethM.symm.trans hmethM'
  obtain ⟨c2, r2, m2, q1, q2, q3, q4, kP, hkP, hkPi⟩ := Cond.selects_spec hsel
  cases hcls.symm.trans q1
  cases (State.methodFound?_of_named hnamed hy).symm.trans q2
  cases hnamed.symm.trans q3
  have hselP : selectMethod e.platform s.vm cellB.cls mk = .method mk := by rw [Launch.admits_selectMethod X.admits]; exact q4
  obtain ⟨vm₁, X₁, hstep₁⟩ := X.invokevirtual hexec hown hlink hnamed hmethM hstM hkP hkPi hy (a := b) (cell := cellB) hcell
    (fun z h => by rw [h] at hobj; cases hobj) hselP hmethM habM hkP hkPi (g := g) hg (argsL := argsL) (rest := rest) (hlen _ hsigM) hstack hdg
  rcases hK m meth c ⟨T.setVm vm₁, locs, cells, slots⟩ { g with stack := rest } (.invokevirtual index) mk (Value.ref b :: argsL).toArray X₁ hg hsize hdg hW (X₁.named hnamed) (hpre vm₁ X₁.warmed) with ⟨v, B, X', hpost, hsteps⟩ | ⟨q, B, X', hpost, hsteps⟩
  · exact Or.inl ⟨v, vm₁, B, X₁.warmed, X', hpost, fun target h => hstep₁ _ fun acts => by rw [doInvoke_state]; exact hsteps.trans h⟩
  · exact Or.inr ⟨q, vm₁, B, X₁.warmed, X', hpost, hstep₁ _ fun acts => by rw [doInvoke_state]; exact hsteps⟩
theorem vx_callS (X : Stand p l e R s m args below meth c T locs cells slots) (hexec : p.tables.exec = Jvm.exec) {own : String} {index : Nat} {y : MethodName} {bytes : ByteArray} {maxL : Nat} {ret : Option FieldType}
    (hown : s.vm.findClass own = some m.cls) (hlink : (Cond.methodLink own index y).before args s = true) (hstat : (Cond.static y).before args s = true) (hinit : (Cond.initialized y.cls).before args s = true)
    (hcode : (Cond.code y bytes maxL ret).before args s = true) (hy : y.cls ≠ "java/lang/invoke/MethodHandle" ∧ y.cls ≠ "java/lang/invoke/VarHandle")
    {W9 : Nat} {Pre : Pt → Array Value → Prop} {Post : Pt → Array Value → Option Value → Pt → Prop} {PostX : Pt → Array Value → Addr → Pt → Prop} (hK : vx_Back l R p e below s args y 3 W9 Pre Post PostX)
    {g : JFrame} (hg : g.method = m) (hsize : g.locals.size = c.maxLocals) {argsL rest : List Value} (hlen : ∀ sig, parseMethodDescriptor y.desc = some sig → argsL.length = sig.parameters.length)
    (hstack : g.stack = argsL.reverse ++ rest) (hW : 2 * g.monitorRoom + (rest.map fun v => v.category).sum ≤ W9) (hdg : decode c.code g.pc = .ok (.invokestatic index, 3))
    (hpre : ∀ vm₁, s.WarmedH vm₁ → Pre ⟨T.setVm vm₁, locs, cells, slots⟩ argsL.toArray) :
    (∃ (v : Option Value) (vm₁ : Vm) (B : Pt), s.WarmedH vm₁ ∧ Stand p l e R s m args below meth c B.U B.locs B.cells B.slots ∧ Post ⟨T.setVm vm₁, locs, cells, slots⟩ argsL.toArray v B ∧
      ∀ target, Steps p.tables e below (B.U.setTop { g with pc := g.pc + 3, stack := v.toList ++ rest }) target → Steps p.tables e below (T.setTop g) target) ∨
    (∃ (q : Addr) (vm₁ : Vm) (B : Pt), s.WarmedH vm₁ ∧ Stand p l e R s m args below meth c B.U B.locs B.cells B.slots ∧ PostX ⟨T.setVm vm₁, locs, cells, slots⟩ argsL.toArray q B ∧
      Steps p.tables e below (T.setTop g) ((B.U.setTop { g with stack := rest }).pushFrame (.throwing q))) := by
  obtain ⟨mk, hnamed⟩ := Cond.code_named hcode
  obtain ⟨methM, cM, hmethM, -, -, -, -, -, -, hsigM⟩ := Cond.code_spec hnamed hcode
  have hstatic : methM.isStatic = true := Cond.static_spec hnamed hmethM hstat
  obtain ⟨kP, hkP, -⟩ := className_of_methodNamed hnamed
  have hinitP : kP.init = .initialized := Cond.initialized_spec (findClass_of_methodNamed hnamed) hkP hinit
  obtain ⟨vm₁, X₁, hstep₁⟩ := X.invokestatic hexec hown hlink hnamed hmethM hstatic hkP hinitP hy (g := g) hg (argsL := argsL) (rest := rest) (hlen _ hsigM) hstack hdg
  rcases hK m meth c ⟨T.setVm vm₁, locs, cells, slots⟩ { g with stack := rest } (.invokestatic index) mk argsL.toArray X₁ hg hsize hdg hW (X₁.named hnamed) (hpre vm₁ X₁.warmed) with ⟨v, B, X', hpost, hsteps⟩ | ⟨q, B, X', hpost, hsteps⟩
  · exact Or.inl ⟨v, vm₁, B, X₁.warmed, X', hpost, fun target h => hstep₁ _ fun acts => by rw [doInvoke_state]; exact hsteps.trans h⟩
  · exact Or.inr ⟨q, vm₁, B, X₁.warmed, X', hpost, hstep₁ _ fun acts => by rw [doInvoke_state]; exact hsteps⟩
end Calls
theorem vx_cls {s : State} {T : State} {vm₁ : Vm} {E : String} {k : ClassId} (hW : s.WarmedH vm₁) (h : (T.setVm vm₁).vm.findClass E = some k) : s.vm.findClass E = some k := by
  have h1 : vm₁.findClass E = some k := h
  rw [hW.alike.findClass] at h1
  exact h1
/-- the method's frame g, with q thrown over it -/
def vx_W (p : Program) (l : Launch) (e : Env) (R : Room) (s : State) (m : MethodId) (args : Array Value) (below : List Frame) (meth : Method) (c : Code) (H : Heap) (locs : List Loc) (cells slots : Nat) (Q : State → Prop) (g : JFrame) (q : Addr) : Prop :=
  ∀ T : State, T.heap = H → Stand p l e R s m args below meth c T locs cells slots → ∃ t, Steps p.tables e below ((T.setTop g).pushFrame (.throwing q)) t ∧ Q t
def vx_Run (p : Program) (l : Launch) (e : Env) (R : Room) (s : State) (m : MethodId) (args : Array Value) (below : List Frame) (meth : Method) (c : Code) (H : Heap) (locs : List Loc) (cells slots mc ms : Nat) (g : JFrame) (rest : List Value) (Qa : State → Outcome → State → Prop) (XC : String → State → State → Prop) (free : Addr → Prop) : Prop :=
  ∀ T : State, T.heap = H → Stand p l e R s m args below meth c T locs cells slots →
    (∃ (v : Option Value) (st₀ t T' : State) (L : List Loc), st₀.heap = H ∧ Stand p l e R s m args below meth c T' (locs ++ L) (cells + mc) (slots + ms) ∧ (∀ q ∈ L, free q.base) ∧ T'.heap = t.heap ∧ T'.vm = t.vm ∧ Qa st₀ (.returned v) t ∧
      Goes p e below T g T' { g with pc := g.pc + 3, stack := v.toList ++ rest }) ∨
    (∃ (q : Addr) (st₀ t T' : State) (L : List Loc) (E : String) (ce : Cell), st₀.heap = H ∧ Stand p l e R s m args below meth c T' (locs ++ L) (cells + mc) (slots + ms) ∧ (∀ z ∈ L, free z.base) ∧ T'.heap = t.heap ∧ T'.vm = t.vm ∧ XC E st₀ t ∧ t.heap[q]? = some ce ∧ ce.vm = .none ∧ s.vm.findClass E = some ce.cls ∧
      Steps p.tables e below (T.setTop g) ((T'.setTop { g with stack := rest }).pushFrame (.throwing q)))
def vx_X {S : Type} (px : S → Prop) (B : String → S → State → Prop) (A : Nat → Prop) : String → State → State → Prop := fun E st t => ∃ u : S, px u ∧ B E u t ∧ va_F A st t
section Runs
variable {p : Program} {l : Launch} {e : Env} {R : Room} {s : State} {m : MethodId} {args : Array Value} {below : List Frame} {meth : Method} {c : Code} {H : Heap} {locs : List Loc} {cells slots : Nat}
variable {y : MethodName} {bytes cc : ByteArray} {maxL nL mc ms n index : Nat} {ret : Option FieldType} {ws : List Cond} {rm : Room} {Pc : Array Value → State → Prop} {Qc : Array Value → State → Outcome → State → Prop} {XC : String → State → State → Prop} {free : Addr → Prop} {Ts : List Cond} {own C : String} {b : Addr} {As rest : List Value} {g : JFrame}
theorem vx_callBack (cb : CallB R s args own index y bytes maxL ret ws rm mc ms n) (hM : vx_Met l y ws rm Pc Qc XC mc ms free) (hbl : FrameBlind Pc) : vx_Back l R p e below s args y 3 8 (PreOf R mc ms Pc) (PostOf Qc mc ms free) (vx_Post XC mc ms free) := by
  obtain ⟨hrc, hrs, hfr, hlo, hws, hcw, -, hini, -⟩ := cb
  exact vx_back (bytes := bytes) (maxL := maxL) (ret := ret) hM hbl hrc hrs hfr hlo hws hcw (fun a' U hW => word_at hW (Or.inl (by first | rfl | simp [Cond.onTables, Cond.keeps, Cond.steady])) hini)
theorem vx_runV (S : CallFix p m c cc nL s args Ts own) (hM : vx_Met l y ws rm Pc Qc XC mc ms free) (cw : CallW R s args own C index y bytes maxL ret ws rm mc ms n) (hp : PreV s H C b Pc As)
    (hg : g.method = m) (hn : As.length = n) (hsize : g.locals.size = nL) (hstack : g.stack = As.reverse ++ .ref b :: rest) (hW : 2 * g.monitorRoom + (rest.map fun v => v.category).sum ≤ 8) (hdg : decode cc g.pc = .ok (.invokevirtual index, 3)) (hf : cells + mc ≤ R.cells ∧ slots + ms ≤ R.slots) :
    vx_Run p l e R s m args below meth c H locs cells slots mc ms g rest (Qc (Value.ref b :: As).toArray) XC free := by
  have hK : vx_Back l R p e below s args y 3 8 (PreOf R mc ms Pc) (PostOf Qc mc ms free) (vx_Post XC mc ms free) := vx_callBack cw.1 hM hp.1
  obtain ⟨⟨-, -, -, -, -, -, hcode, -, hy, hlen, hl⟩, hin, hse⟩ := cw
  obtain ⟨hx, hb, hml, ho, -⟩ := S
  obtain ⟨-, ⟨cellB, hcB, hoB, hclB⟩, hPc⟩ := hp
  intro T hT X
  rcases vx_callV X hx (C := C) (bytes := bytes) (maxL := maxL) (ret := ret) ho hl hin hse hcode hy hK (by rw [hT]; exact hcB) hoB hclB hg (hsize.trans hml.symm) (argsL := As) (rest := rest) (fun sig h => hn.trans (hlen sig h)) hstack hW (by rw [hb]; exact hdg)
    (fun vm₁ hW₁ => ⟨hf.1, hf.2, hPc (T.setVm vm₁) hT hW₁⟩) with ⟨v, vm₁, ⟨U', l2, c2, s2⟩, hW₁, X', ⟨g', mk, t, L, e1, e2, hq, h1, hL, h2, h3⟩, st⟩ | ⟨q, vm₁, ⟨U', l2, c2, s2⟩, hW₁, X', ⟨g', mk, t, L, E, ce, e1, e2, hq, hce, hcv, hcl, h1, hL, h2, h3⟩, st⟩
  · dsimp only [Pt.U, Pt.locs, Pt.cells, Pt.slots] at X' e1 e2 h1 h2 h3 st
    subst h1; subst h2; subst h3
    exact Or.inl ⟨v, (T.setVm vm₁).calling g' mk (Value.ref b :: As).toArray, t, U', L, hT, X', hL, e1, e2, hq, st⟩
  · dsimp only [Pt.U, Pt.locs, Pt.cells, Pt.slots] at X' e1 e2 h1 h2 h3 st hcl
    subst h1; subst h2; subst h3
    exact Or.inr ⟨q, (T.setVm vm₁).calling g' mk (Value.ref b :: As).toArray, t, U', L, E, ce, hT, X', hL, e1, e2, hq, hce, hcv, vx_cls hW₁ hcl, st⟩
theorem vx_runS (S : CallFix p m c cc nL s args Ts own) (hM : vx_Met l y ws rm Pc Qc XC mc ms free) (cw : CallB R s args own index y bytes maxL ret ws rm mc ms n ∧ (Cond.static y).before args s = true) (hp : PreS s H Pc As)
    (hg : g.method = m) (hn : As.length = n) (hsize : g.locals.size = nL) (hstack : g.stack = As.reverse ++ rest) (hW : 2 * g.monitorRoom + (rest.map fun v => v.category).sum ≤ 8) (hdg : decode cc g.pc = .ok (.invokestatic index, 3)) (hf : cells + mc ≤ R.cells ∧ slots + ms ≤ R.slots) :
    vx_Run p l e R s m args below meth c H locs cells slots mc ms g rest (Qc As.toArray) XC free := by
  have hK : vx_Back l R p e below s args y 3 8 (PreOf R mc ms Pc) (PostOf Qc mc ms free) (vx_Post XC mc ms free) := vx_callBack cw.1 hM hp.1
  obtain ⟨⟨-, -, -, -, -, -, hcode, hini, hy, hlen, hl⟩, hstt⟩ := cw
  obtain ⟨hx, hb, hml, ho, -⟩ := S
  intro T hT X
  rcases vx_callS X hx (bytes := bytes) (maxL := maxL) (ret := ret) ho hl hstt hini hcode hy hK hg (hsize.trans hml.symm) (argsL := As) (rest := rest) (fun sig h => hn.trans (hlen sig h)) hstack hW (by rw [hb]; exact hdg)
    (fun vm₁ hW₁ => ⟨hf.1, hf.2, hp.2 (T.setVm vm₁) hT hW₁⟩) with ⟨v, vm₁, ⟨U', l2, c2, s2⟩, hW₁, X', ⟨g', mk, t, L, e1, e2, hq, h1, hL, h2, h3⟩, st⟩ | ⟨q, vm₁, ⟨U', l2, c2, s2⟩, hW₁, X', ⟨g', mk, t, L, E, ce, e1, e2, hq, hce, hcv, hcl, h1, hL, h2, h3⟩, st⟩
  · dsimp only [Pt.U, Pt.locs, Pt.cells, Pt.slots] at X' e1 e2 h1 h2 h3 st
    subst h1; subst h2; subst h3
    exact Or.inl ⟨v, (T.setVm vm₁).calling g' mk As.toArray, t, U', L, hT, X', hL, e1, e2, hq, st⟩
  · dsimp only [Pt.U, Pt.locs, Pt.cells, Pt.slots] at X' e1 e2 h1 h2 h3 st hcl
    subst h1; subst h2; subst h3
    exact Or.inr ⟨q, (T.setVm vm₁).calling g' mk As.toArray, t, U', L, E, ce, hT, X', hL, e1, e2, hq, hce, hcv, vx_cls hW₁ hcl, st⟩
end Runs
section Rows
variable {p : Program} {l : Launch} {e : Env} {R : Room} {s : State} {m : MethodId} {args : Array Value} {below : List Frame} {meth : Method} {c : Code} {H : Heap} {locs : List Loc} {cells slots : Nat} {Q : State → Prop}
variable {mc ms : Nat} {free : Addr → Prop} {A0 A1 : Nat → Prop} {H0 : Heap} {a : Array Value} {pc : Nat} {ls : Array Slot} {st0 rest : List Value}
theorem vx_keep {st₀ t T' : State} {L : List Loc} (h0 : st₀.heap = H) (e1 : T'.heap = t.heap) (hS : va_S A0 H0 H locs) (hA : ∀ q, q < H.size → A1 q → A0 q) (hf : ∀ q, free q → A0 q) (hL : ∀ q ∈ L, free q.base) (hF : va_F A1 st₀ t) :
    H.size ≤ T'.heap.size ∧ (∀ q : Nat, q < H.size → ¬ A1 q → T'.heap[q]? = H[q]?) ∧ va_S A0 H0 T'.heap (locs ++ L) := by
  obtain ⟨hz, hk⟩ := hF
  rw [h0] at hz hk
  exact ⟨by rw [e1]; exact hz, fun q h1 h2 => by rw [e1]; exact hk q h1 h2,
    ⟨Nat.le_trans hS.1 (by rw [e1]; exact hz), fun q h1 h2 => by rw [e1, hk q (Nat.lt_of_lt_of_le h1 hS.1) (fun z => h2 (hA q (Nat.lt_of_lt_of_le h1 hS.1) z))]; exact hS.2.1 q h1 h2, fun q hq => by
      rcases List.mem_append.mp hq with h | h
      · exact hS.2.2 q h
      · exact hf _ (hL q h)⟩⟩
theorem vx_calli {S SX : Type} {post : Int32 → S → Prop} {px : SX → Prop} {B : S → State → Prop} {BX : String → SX → State → Prop} {AX : Nat → Prop} (hr : vx_Run p l e R s m args below meth c H locs cells slots mc ms (F0 m pc ls st0) rest (va_Qi post B A1 a) (vx_X px BX AX) free) (hS : va_S A0 H0 H locs) (hA : ∀ q, q < H.size → A1 q → A0 q) (hf : ∀ q, free q → A0 q) (hAX : ∀ q, q < H.size → AX q → A0 q)
    (kx : ∀ (E : String) (ce : Cell) (q9 : Addr) (u : SX) (t : State) (H1 : Heap) (locs1 : List Loc), t.heap = H1 → s.vm.Alike t.vm → px u → BX E u t → H.size ≤ H1.size → (∀ q : Nat, q < H.size → ¬ AX q → H1[q]? = H[q]?) → va_S A0 H0 H1 locs1 → H1[q9]? = some ce → ce.vm = .none → s.vm.findClass E = some ce.cls → vx_W p l e R s m args below meth c H1 locs1 (cells + mc) (slots + ms) Q (F0 m pc ls rest) q9)
    (kk : ∀ (r : Int32) (u : S) (t : State) (H1 : Heap) (locs1 : List Loc), t.heap = H1 → s.vm.Alike t.vm → post r u → B u t → H.size ≤ H1.size → (∀ q : Nat, q < H.size → ¬ A1 q → H1[q]? = H[q]?) → va_S A0 H0 H1 locs1 → W p l e R s m args below meth c H1 locs1 (cells + mc) (slots + ms) Q (F0 m (pc + 3) ls (.int r :: rest))) : W p l e R s m args below meth c H locs cells slots Q (F0 m pc ls st0) := by
  intro T hT X
  rcases hr T hT X with ⟨v, st₀, t, T', L, h0, X', hL, e1, e2, ⟨⟨r, u, hv, hp, hb⟩, hF⟩, st⟩ | ⟨q, st₀, t, T', L, E, ce, h0, X', hL, e1, e2, ⟨u, hp, hb, hF⟩, hce, hcv, hcl, st⟩
  · cases hv
    obtain ⟨k1, k2, k3⟩ := vx_keep h0 e1 hS hA hf hL hF
    obtain ⟨t2, a1, b1⟩ := kk r u t T'.heap (locs ++ L) e1.symm (by rw [← e2]; exact X'.warmed.alike) hp hb k1 k2 k3 T' rfl X'
    exact ⟨t2, st t2 a1, b1⟩
  · obtain ⟨k1, k2, k3⟩ := vx_keep h0 e1 hS hAX hf hL hF
    obtain ⟨t2, a1, b1⟩ := kx E ce q u t T'.heap (locs ++ L) e1.symm (by rw [← e2]; exact X'.warmed.alike) hp hb k1 k2 k3 (by rw [e1]; exact hce) hcv hcl T' rfl X'
    exact ⟨t2, st.trans a1, b1⟩
theorem vx_calll {S SX : Type} {post : Int64 → S → Prop} {px : SX → Prop} {B : S → State → Prop} {BX : String → SX → State → Prop} {AX : Nat → Prop} (hr : vx_Run p l e R s m args below meth c H locs cells slots mc ms (F0 m pc ls st0) rest (va_Ql post B A1 a) (vx_X px BX AX) free) (hS : va_S A0 H0 H locs) (hA : ∀ q, q < H.size → A1 q → A0 q) (hf : ∀ q, free q → A0 q) (hAX : ∀ q, q < H.size → AX q → A0 q)
    (kx : ∀ (E : String) (ce : Cell) (q9 : Addr) (u : SX) (t : State) (H1 : Heap) (locs1 : List Loc), t.heap = H1 → s.vm.Alike t.vm → px u → BX E u t → H.size ≤ H1.size → (∀ q : Nat, q < H.size → ¬ AX q → H1[q]? = H[q]?) → va_S A0 H0 H1 locs1 → H1[q9]? = some ce → ce.vm = .none → s.vm.findClass E = some ce.cls → vx_W p l e R s m args below meth c H1 locs1 (cells + mc) (slots + ms) Q (F0 m pc ls rest) q9)
    (kk : ∀ (r : Int64) (u : S) (t : State) (H1 : Heap) (locs1 : List Loc), t.heap = H1 → s.vm.Alike t.vm → post r u → B u t → H.size ≤ H1.size → (∀ q : Nat, q < H.size → ¬ A1 q → H1[q]? = H[q]?) → va_S A0 H0 H1 locs1 → W p l e R s m args below meth c H1 locs1 (cells + mc) (slots + ms) Q (F0 m (pc + 3) ls (.long r :: rest))) : W p l e R s m args below meth c H locs cells slots Q (F0 m pc ls st0) := by
  intro T hT X
  rcases hr T hT X with ⟨v, st₀, t, T', L, h0, X', hL, e1, e2, ⟨⟨r, u, hv, hp, hb⟩, hF⟩, st⟩ | ⟨q, st₀, t, T', L, E, ce, h0, X', hL, e1, e2, ⟨u, hp, hb, hF⟩, hce, hcv, hcl, st⟩
  · cases hv
    obtain ⟨k1, k2, k3⟩ := vx_keep h0 e1 hS hA hf hL hF
    obtain ⟨t2, a1, b1⟩ := kk r u t T'.heap (locs ++ L) e1.symm (by rw [← e2]; exact X'.warmed.alike) hp hb k1 k2 k3 T' rfl X'
    exact ⟨t2, st t2 a1, b1⟩
  · obtain ⟨k1, k2, k3⟩ := vx_keep h0 e1 hS hAX hf hL hF
    obtain ⟨t2, a1, b1⟩ := kx E ce q u t T'.heap (locs ++ L) e1.symm (by rw [← e2]; exact X'.warmed.alike) hp hb k1 k2 k3 (by rw [e1]; exact hce) hcv hcl T' rfl X'
    exact ⟨t2, st.trans a1, b1⟩
theorem vx_callf {S SX : Type} {post : UInt32 → S → Prop} {px : SX → Prop} {B : S → State → Prop} {BX : String → SX → State → Prop} {AX : Nat → Prop} (hr : vx_Run p l e R s m args below meth c H locs cells slots mc ms (F0 m pc ls st0) rest (va_Qf post B A1 a) (vx_X px BX AX) free) (hS : va_S A0 H0 H locs) (hA : ∀ q, q < H.size → A1 q → A0 q) (hf : ∀ q, free q → A0 q) (hAX : ∀ q, q < H.size → AX q → A0 q)
    (kx : ∀ (E : String) (ce : Cell) (q9 : Addr) (u : SX) (t : State) (H1 : Heap) (locs1 : List Loc), t.heap = H1 → s.vm.Alike t.vm → px u → BX E u t → H.size ≤ H1.size → (∀ q : Nat, q < H.size → ¬ AX q → H1[q]? = H[q]?) → va_S A0 H0 H1 locs1 → H1[q9]? = some ce → ce.vm = .none → s.vm.findClass E = some ce.cls → vx_W p l e R s m args below meth c H1 locs1 (cells + mc) (slots + ms) Q (F0 m pc ls rest) q9)
    (kk : ∀ (r : UInt32) (u : S) (t : State) (H1 : Heap) (locs1 : List Loc), t.heap = H1 → s.vm.Alike t.vm → post r u → B u t → H.size ≤ H1.size → (∀ q : Nat, q < H.size → ¬ A1 q → H1[q]? = H[q]?) → va_S A0 H0 H1 locs1 → W p l e R s m args below meth c H1 locs1 (cells + mc) (slots + ms) Q (F0 m (pc + 3) ls (.float r :: rest))) : W p l e R s m args below meth c H locs cells slots Q (F0 m pc ls st0) := by
  intro T hT X
  rcases hr T hT X with ⟨v, st₀, t, T', L, h0, X', hL, e1, e2, ⟨⟨r, u, hv, hp, hb⟩, hF⟩, st⟩ | ⟨q, st₀, t, T', L, E, ce, h0, X', hL, e1, e2, ⟨u, hp, hb, hF⟩, hce, hcv, hcl, st⟩
  · cases hv
    obtain ⟨k1, k2, k3⟩ := vx_keep h0 e1 hS hA hf hL hF
    obtain ⟨t2, a1, b1⟩ := kk r u t T'.heap (locs ++ L) e1.symm (by rw [← e2]; exact X'.warmed.alike) hp hb k1 k2 k3 T' rfl X'
    exact ⟨t2, st t2 a1, b1⟩
  · obtain ⟨k1, k2, k3⟩ := vx_keep h0 e1 hS hAX hf hL hF
    obtain ⟨t2, a1, b1⟩ := kx E ce q u t T'.heap (locs ++ L) e1.symm (by rw [← e2]; exact X'.warmed.alike) hp hb k1 k2 k3 (by rw [e1]; exact hce) hcv hcl T' rfl X'
    exact ⟨t2, st.trans a1, b1⟩
theorem vx_calld {S SX : Type} {post : UInt64 → S → Prop} {px : SX → Prop} {B : S → State → Prop} {BX : String → SX → State → Prop} {AX : Nat → Prop} (hr : vx_Run p l e R s m args below meth c H locs cells slots mc ms (F0 m pc ls st0) rest (va_Qd post B A1 a) (vx_X px BX AX) free) (hS : va_S A0 H0 H locs) (hA : ∀ q, q < H.size → A1 q → A0 q) (hf : ∀ q, free q → A0 q) (hAX : ∀ q, q < H.size → AX q → A0 q)
    (kx : ∀ (E : String) (ce : Cell) (q9 : Addr) (u : SX) (t : State) (H1 : Heap) (locs1 : List Loc), t.heap = H1 → s.vm.Alike t.vm → px u → BX E u t → H.size ≤ H1.size → (∀ q : Nat, q < H.size → ¬ AX q → H1[q]? = H[q]?) → va_S A0 H0 H1 locs1 → H1[q9]? = some ce → ce.vm = .none → s.vm.findClass E = some ce.cls → vx_W p l e R s m args below meth c H1 locs1 (cells + mc) (slots + ms) Q (F0 m pc ls rest) q9)
    (kk : ∀ (r : UInt64) (u : S) (t : State) (H1 : Heap) (locs1 : List Loc), t.heap = H1 → s.vm.Alike t.vm → post r u → B u t → H.size ≤ H1.size → (∀ q : Nat, q < H.size → ¬ A1 q → H1[q]? = H[q]?) → va_S A0 H0 H1 locs1 → W p l e R s m args below meth c H1 locs1 (cells + mc) (slots + ms) Q (F0 m (pc + 3) ls (.double r :: rest))) : W p l e R s m args below meth c H locs cells slots Q (F0 m pc ls st0) := by
  intro T hT X
  rcases hr T hT X with ⟨v, st₀, t, T', L, h0, X', hL, e1, e2, ⟨⟨r, u, hv, hp, hb⟩, hF⟩, st⟩ | ⟨q, st₀, t, T', L, E, ce, h0, X', hL, e1, e2, ⟨u, hp, hb, hF⟩, hce, hcv, hcl, st⟩
  · cases hv
    obtain ⟨k1, k2, k3⟩ := vx_keep h0 e1 hS hA hf hL hF
    obtain ⟨t2, a1, b1⟩ := kk r u t T'.heap (locs ++ L) e1.symm (by rw [← e2]; exact X'.warmed.alike) hp hb k1 k2 k3 T' rfl X'
    exact ⟨t2, st t2 a1, b1⟩
  · obtain ⟨k1, k2, k3⟩ := vx_keep h0 e1 hS hAX hf hL hF
    obtain ⟨t2, a1, b1⟩ := kx E ce q u t T'.heap (locs ++ L) e1.symm (by rw [← e2]; exact X'.warmed.alike) hp hb k1 k2 k3 (by rw [e1]; exact hce) hcv hcl T' rfl X'
    exact ⟨t2, st.trans a1, b1⟩
theorem vx_callv {S SX : Type} {post : S → Prop} {px : SX → Prop} {B : S → State → Prop} {BX : String → SX → State → Prop} {AX : Nat → Prop} (hr : vx_Run p l e R s m args below meth c H locs cells slots mc ms (F0 m pc ls st0) rest (va_Qv post B A1 a) (vx_X px BX AX) free) (hS : va_S A0 H0 H locs) (hA : ∀ q, q < H.size → A1 q → A0 q) (hf : ∀ q, free q → A0 q) (hAX : ∀ q, q < H.size → AX q → A0 q)
    (kx : ∀ (E : String) (ce : Cell) (q9 : Addr) (u : SX) (t : State) (H1 : Heap) (locs1 : List Loc), t.heap = H1 → s.vm.Alike t.vm → px u → BX E u t → H.size ≤ H1.size → (∀ q : Nat, q < H.size → ¬ AX q → H1[q]? = H[q]?) → va_S A0 H0 H1 locs1 → H1[q9]? = some ce → ce.vm = .none → s.vm.findClass E = some ce.cls → vx_W p l e R s m args below meth c H1 locs1 (cells + mc) (slots + ms) Q (F0 m pc ls rest) q9)
    (kk : ∀ (u : S) (t : State) (H1 : Heap) (locs1 : List Loc), t.heap = H1 → s.vm.Alike t.vm → post u → B u t → H.size ≤ H1.size → (∀ q : Nat, q < H.size → ¬ A1 q → H1[q]? = H[q]?) → va_S A0 H0 H1 locs1 → W p l e R s m args below meth c H1 locs1 (cells + mc) (slots + ms) Q (F0 m (pc + 3) ls (rest))) : W p l e R s m args below meth c H locs cells slots Q (F0 m pc ls st0) := by
  intro T hT X
  rcases hr T hT X with ⟨v, st₀, t, T', L, h0, X', hL, e1, e2, ⟨⟨u, hv, hp, hb⟩, hF⟩, st⟩ | ⟨q, st₀, t, T', L, E, ce, h0, X', hL, e1, e2, ⟨u, hp, hb, hF⟩, hce, hcv, hcl, st⟩
  · cases hv
    obtain ⟨k1, k2, k3⟩ := vx_keep h0 e1 hS hA hf hL hF
    obtain ⟨t2, a1, b1⟩ := kk u t T'.heap (locs ++ L) e1.symm (by rw [← e2]; exact X'.warmed.alike) hp hb k1 k2 k3 T' rfl X'
    exact ⟨t2, st t2 a1, b1⟩
  · obtain ⟨k1, k2, k3⟩ := vx_keep h0 e1 hS hAX hf hL hF
    obtain ⟨t2, a1, b1⟩ := kx E ce q u t T'.heap (locs ++ L) e1.symm (by rw [← e2]; exact X'.warmed.alike) hp hb k1 k2 k3 (by rw [e1]; exact hce) hcv hcl T' rfl X'
    exact ⟨t2, st.trans a1, b1⟩
/-- caught by the row x of this method's table; the rows ahead don't take it -/
theorem vx_catch {own name : String} {E : String} {ce : Cell} {q : Addr} (hown : s.vm.findClass own = some m.cls) (pre : List ExceptionTableEntry) (x : ExceptionTableEntry) (suf : List ExceptionTableEntry) (hsplit : c.exceptionTable.toList = pre ++ x :: suf)
    (hpass : ∀ z ∈ pre, covers z pc = false ∨ (z.catchType ≠ 0 ∧ ∃ nm : String, (Cond.classLink own z.catchType nm).before args s = true ∧ va_Nc E nm s)) (hx : covers x pc = true) (h0 : x.catchType ≠ 0)
    (hlink : (Cond.classLink own x.catchType name).before args s = true) (hcast : (Cond.castable E name).before args s = true) (hcell : H[q]? = some ce) (hv : ce.vm = .none) (hcl : s.vm.findClass E = some ce.cls)
    (kk : W p l e R s m args below meth c H locs cells slots Q (F0 m x.handlerPc ls [.ref q])) : vx_W p l e R s m args below meth c H locs cells slots Q (F0 m pc ls rest) q := by
  intro T hT X
  have hpl : e.platform.magicAccessors = ({} : Platform).magicAccessors := by rw [X.admits.platform]
  obtain ⟨c3, c4, hc3, hc4, hasg⟩ := Cond.castable_spec hcast
  cases Option.some.inj (hc3.symm.trans hcl)
  obtain ⟨c5, hc5, hcl5⟩ := Cond.classLink_spec hown hlink e.platform hpl
  cases Option.some.inj (hc4.symm.trans hc5)
  obtain ⟨vm', X', st⟩ := X.thenCaughtThrough q (g := F0 m pc ls rest) rfl (Steps.refl _) (by rw [hT]; exact hcell) (by rw [hv]; rfl) (by obtain ⟨k9, h9, -⟩ := Vm.findClass_spec hcl; exact ⟨k9, h9⟩) pre x suf hsplit
    (fun z hz => by
      rcases hpass z hz with h | ⟨hz0, nm, hl1, hn1⟩
      · exact Or.inl h
      · obtain ⟨c6, hc6, hcl6⟩ := Cond.classLink_spec hown hl1 e.platform hpl
        obtain ⟨a8, b8, h1, h2, h3⟩ := hn1
        cases Option.some.inj (h1.symm.trans hcl)
        cases Option.some.inj (h2.symm.trans hc6)
        exact Or.inr ⟨hz0, _, hcl6, h3⟩) hx (Or.inr ⟨h0, c4, hcl5, hasg⟩)
  obtain ⟨t, a1, b1⟩ := kk (T.setVm vm') hT X'
  exact ⟨t, st.trans a1, b1⟩
end Rows
section Ends
variable {p : Program} {l : Launch} {e : Env} {R : Room} {s : State} {m : MethodId} {args : Array Value} {below : List Frame} {meth : Method} {c : Code} {H : Heap} {locs : List Loc} {cells slots : Nat} {Q : State → Prop}
variable {mc ms : Nat} {free : Addr → Prop} {A0 A1 : Nat → Prop} {H0 : Heap} {a : Array Value} {ls : Array Slot} {st0 rest : List Value}
variable {Qc : Array Value → State → Outcome → State → Prop} {XC : String → State → State → Prop}
/-- what a body that may throw owes at its end -/
def vx_MQ (below : List Frame) (Qc : Array Value → State → Outcome → State → Prop) (XC : String → State → State → Prop) (a : Array Value) (s : State) (mc ms : Nat) (free : Addr → Prop) : State → Prop := fun t =>
  ∃ o, t.status = .running ∧ Ended t below o ∧ vx_Q Qc XC mc ms free a s o t
theorem vx_ret {g : JFrame} {mc ms : Nat} (k : W p l e R s m args below meth c H locs cells slots (MQ below Qc args s mc ms free) g) : W p l e R s m args below meth c H locs cells slots (vx_MQ below Qc XC args s mc ms free) g := by
  intro T hT X
  obtain ⟨t, a1, o, b1, b2, b3, b4⟩ := k T hT X
  exact ⟨t, a1, o, b1, b2, Or.inl ⟨b3, b4⟩⟩
/-- not caught here: it goes on to the caller -/
theorem vx_widen {g : JFrame} {q : Addr} {k n : Nat} (h1 : cells ≤ k) (h2 : slots ≤ n) (kk : vx_W p l e R s m args below meth c H locs k n Q g q) : vx_W p l e R s m args below meth c H locs cells slots Q g q := fun T hT X => kk T hT (stand_widen X h1 h2)
theorem vx_out {pc : Nat} {E : String} {ce : Cell} {q : Addr} {mc ms : Nat} (hout : ∀ x ∈ c.exceptionTable.toList, covers x pc = false) (hlocks : meth.locks = false) (hcell : H[q]? = some ce) (hv : ce.vm = .none) (hcl : s.vm.findClass E = some ce.cls)
    (hx : ∀ t : State, t.heap = H → s.vm.Alike t.vm → XC E s t) (hf : ∀ z ∈ locs, free z.base) (hc : cells ≤ mc) (hs : slots ≤ ms) :
    vx_W p l e R s m args below meth c H locs cells slots (vx_MQ below Qc XC args s mc ms free) (F0 m pc ls rest) q := by
  intro T hT X
  obtain ⟨st1, hrun, hend, hW, hsm⟩ := X.leaveThrown q (g := F0 m pc ls rest) rfl rfl rfl hout hlocks
  have hcell9 : (T.setFrames (.throwing q :: below)).heap[q]? = some ce := by
    show T.heap[q]? = some ce
    rw [hT]; exact hcell
  exact ⟨_, st1, .threw q, hrun, hend, Or.inr ⟨q, rfl, E, ce, locs, hx _ hT hW.alike, hcell9, hv, hcl, hW, hsm.mono hc hs, hf⟩⟩
theorem vx_frame {U : State} {k n : Nat} (h : s.sameButNew ({ U with vm := s.vm } : State) locs k n) : s.heap.size ≤ U.heap.size ∧ ∀ q : Nat, q < s.heap.size → (∀ z ∈ locs, z.base ≠ q) → U.heap[q]? = s.heap[q]? := by
  obtain ⟨-, h2, -, -, -, h6⟩ := h
  refine ⟨h2, fun q hq hz => ?_⟩
  obtain ⟨c9, e1, e2, e3, e4⟩ := h6 q _ (Array.getElem?_eq_getElem hq)
  have hs : c9.slots = (s.heap[q]).slots := Array.ext_getElem? fun i => e4 i fun hm => hz _ hm rfl
  have h9 : c9 = s.heap[q] := by
    rw [hs] at e2
    exact e2
  have e5 : U.heap[q]? = some c9 := e1
  rw [e5, h9, Array.getElem?_eq_getElem hq]
/-- the words of a throw but the four that speak of the heap -/
def vx_no (w : Cond) : Bool := decide (w ≠ .isRef (.static Bundle.tN "UNASSIGNED_STACK" Bundle.steD)) && decide (w ≠ .isRef (.static Bundle.tN "SUPPRESSED_SENTINEL" Bundle.listD)) && decide (w ≠ .laysStatic Bundle.tN "UNASSIGNED_STACK" Bundle.steD) && decide (w ≠ .laysStatic Bundle.tN "SUPPRESSED_SENTINEL" Bundle.listD)
def vx_at0 (own : String) (ic : Nat) (X : String) (names : List String) : List Cond := (Bundle.ownAtoms0 own ic X names).filter vx_no
def vx_atS (own : String) (ic : Nat) (X : String) (names : List String) : List Cond := (Bundle.ownAtoms own ic X names).filter vx_no
/-- a word that the tables alone decide, or a good one -/
def vx_ot (w : Cond) : Bool := w.onTables || goodWord w
theorem vx_ot_at {args a' : Array Value} {s U : State} {w : Cond} (hW : s.WarmedH U.vm) (hvm : s.vm = U.vm) (hg : vx_ot w = true) (h : w.before args s = true) : w.before a' U = true := by
  simp only [vx_ot, Bool.or_eq_true] at hg
  rcases hg with hg | hg
  · exact va_tabs hg hvm h
  · exact word_at hW (good_of_word hg) h
/-- a list's words: the good ones out of the method's own list, the others by premises of their own -/
theorem vx_hat {args : Array Value} {s : State} {L B : List Cond} (h1 : ∀ w ∈ L.filter goodWord, w.before args s = true) (h2 : ∀ w ∈ L.filter (fun w => !goodWord w), w ∈ B) (h3 : ∀ w ∈ B, w.before args s = true) : ∀ w ∈ L, w.before args s = true := by
  intro w hw
  by_cases g : goodWord w = true
  · exact h1 w (List.mem_filter.mpr ⟨hw, g⟩)
  · refine h3 w (h2 w (List.mem_filter.mpr ⟨hw, ?_⟩))
    show (!goodWord w) = true
    cases hgw : goodWord w
    · rfl
    · exact absurd hgw g
theorem vx_c {args : Array Value} {s : State} {w : Cond} {B : List Cond} (h : w.before args s = true) (t : ∀ w ∈ B, w.before args s = true) : ∀ w' ∈ w :: B, w'.before args s = true := fun w' h' => (List.mem_cons.mp h').elim (fun e => by rw [e]; exact h) (t w')
theorem vx_n {args : Array Value} {s : State} : ∀ w ∈ ([] : List Cond), w.before args s = true := fun _ h => nomatch h
theorem vx_own {args : Array Value} {s : State} {L : List Cond} (h1 : ∀ w ∈ L.filter vx_no, w.before args s = true)
    (hU : (Cond.isRef (.static Bundle.tN "UNASSIGNED_STACK" Bundle.steD)).before args s = true) (hN : (Cond.isRef (.static Bundle.tN "SUPPRESSED_SENTINEL" Bundle.listD)).before args s = true)
    (lU : (Cond.laysStatic Bundle.tN "UNASSIGNED_STACK" Bundle.steD).before args s = true) (lN : (Cond.laysStatic Bundle.tN "SUPPRESSED_SENTINEL" Bundle.listD).before args s = true) : ∀ w ∈ L, w.before args s = true := by
  intro w hw
  by_cases e1 : w = .isRef (.static Bundle.tN "UNASSIGNED_STACK" Bundle.steD)
  · rw [e1]; exact hU
  · by_cases e2 : w = .isRef (.static Bundle.tN "SUPPRESSED_SENTINEL" Bundle.listD)
    · rw [e2]; exact hN
    · by_cases e3 : w = .laysStatic Bundle.tN "UNASSIGNED_STACK" Bundle.steD
      · rw [e3]; exact lU
      · by_cases e4 : w = .laysStatic Bundle.tN "SUPPRESSED_SENTINEL" Bundle.listD
        · rw [e4]; exact lN
        · exact h1 w (List.mem_filter.mpr ⟨hw, by unfold vx_no; rw [decide_eq_true e1, decide_eq_true e2, decide_eq_true e3, decide_eq_true e4]; rfl⟩)
/-- where a static field lies, its class's statics cell in H -/
def vx_L (C n d : String) (A : Nat → Prop) (U : State) (H : Heap) : Prop := ∃ (c : ClassId) (k : Class) (i : Nat) (f : Field) (a : Nat) (cell : Cell), U.vm.findClass C = some c ∧ U.fieldFound? C n d = some (c, k, i, f) ∧ f.isStatic = true ∧ k.statics = some a ∧ H[a]? = some cell ∧ cell.vm.isStatics = true ∧ cell.cls = c ∧ f.slot < cell.slots.size ∧ k.staticTypes[f.slot]? = some f.type ∧ ¬ A a
theorem vx_L.moved {C n d : String} {A : Nat → Prop} {u U : State} {H : Heap} (hvm : u.vm.Alike U.vm) (h : vx_L C n d A u H) : vx_L C n d A U H := by
  obtain ⟨c, k, i, f, a, cell, h1, h2, h3, h4, h5, h6, h7, h8, h9, h10⟩ := h
  obtain ⟨k', hi', he⟩ := State.fieldFound?_setVm hvm h2
  exact ⟨c, k', i, f, a, cell, by rw [hvm.findClass]; exact h1, hi', h3, by rw [he]; exact h4, h5, h6, h7, h8, by rw [he]; exact h9, h10⟩
theorem vx_L.kept {C n d : String} {A : Nat → Prop} {U : State} {H H1 : Heap} (h : vx_L C n d A U H) (hq : ∀ a : Nat, a < H.size → ¬ A a → H1[a]? = H[a]?) : vx_L C n d A U H1 := by
  obtain ⟨c, k, i, f, a, cell, h1, h2, h3, h4, h5, h6, h7, h8, h9, h10⟩ := h
  exact ⟨c, k, i, f, a, cell, h1, h2, h3, h4, by rw [hq a (Array.getElem?_eq_some_iff.mp h5).1 h10]; exact h5, h6, h7, h8, h9, h10⟩
theorem vx_L.narrow {C n d : String} {A B : Nat → Prop} {U : State} {H : Heap} (h : vx_L C n d A U H) (hAB : ∀ q, B q → A q) : vx_L C n d B U H := by
  obtain ⟨c, k, i, f, a, cell, h1, h2, h3, h4, h5, h6, h7, h8, h9, h10⟩ := h
  exact ⟨c, k, i, f, a, cell, h1, h2, h3, h4, h5, h6, h7, h8, h9, fun z => h10 (hAB _ z)⟩
theorem vx_L.word {C n d : String} {A : Nat → Prop} {s : State} {args : Array Value} (h : vx_L C n d A s s.heap) : (Cond.laysStatic C n d).before args s = true := by
  obtain ⟨c, k, i, f, a, cell, h1, h2, h3, h4, h5, h6, h7, h8, h9, -⟩ := h
  show (Cond.laysStatic C n d).holds args s none s [] = true
  exact Cond.laysStatic_of h1 h2 h3 h4 h5 h6 h7 h8 h9
/-- .. and what it holds: null or some reference -/
def vx_Zq (C n d : String) (A : Nat → Prop) (U : State) (H : Heap) : Prop := va_Zq C n d A U H ∧ vx_L C n d A U H
theorem vx_Zq.moved {C n d : String} {A : Nat → Prop} {u U : State} {H : Heap} (hvm : u.vm.Alike U.vm) (h : vx_Zq C n d A u H) : vx_Zq C n d A U H := ⟨va_Zq.moved hvm h.1, vx_L.moved hvm h.2⟩
theorem vx_Zq.kept {C n d : String} {A : Nat → Prop} {U : State} {H H1 : Heap} (h : vx_Zq C n d A U H) (hq : ∀ a : Nat, a < H.size → ¬ A a → H1[a]? = H[a]?) : vx_Zq C n d A U H1 := ⟨va_Zq.kept h.1 hq, vx_L.kept h.2 hq⟩
theorem vx_Zq.narrow {C n d : String} {A B : Nat → Prop} {U : State} {H : Heap} (h : vx_Zq C n d A U H) (hAB : ∀ q, B q → A q) : vx_Zq C n d B U H := ⟨va_Zq.narrow h.1 hAB, vx_L.narrow h.2 hAB⟩
theorem vx_Zqof {args : Array Value} {s : State} {C n d : String} {A : Nat → Prop} (hl : (Cond.laysStatic C n d).before args s = true) (hini : (Cond.initialized C).before args s = true) (h : (Cond.isRef (.static C n d)).before args s = true) (hA : ∀ a : Nat, a < s.heap.size → ¬ A a) : vx_Zq C n d A s s.heap := by
  refine ⟨va_Zqof hl hini h hA, ?_⟩
  obtain ⟨c, k, i, f, a, cell, h1, h2, h3, h4, h5, h6, h7, h8, h9⟩ := Cond.laysStatic_spec hl
  exact ⟨c, k, i, f, a, cell, h1, h2, h3, h4, h5, h6, h7, h8, h9, hA a (Array.getElem?_eq_some_iff.mp h5).1⟩
theorem vx_isRef {C n d : String} {v : Value} {A : Nat → Prop} {s : State} {args : Array Value} (h : va_Z C n d v A s s.heap) (hv : v.isRef = true) : (Cond.isRef (.static C n d)).before args s = true := by
  obtain ⟨cf, kf, fi, f, a, cell, h1, h2, h3, h4, h5, h6, h7, -⟩ := h
  have he : (Term.static C n d).eval args s none [] s = some v := by
    simp [Term.eval, State.fieldNamed?, h1, h2, h4, h5, h6, h7]
  simp only [Cond.before, Cond.holds, Cond.value, he]
  cases v <;> simp_all [Value.isRef]
theorem vx_isRefq {C n d : String} {A : Nat → Prop} {s : State} {args : Array Value} (h : va_Zq C n d A s s.heap) : (Cond.isRef (.static C n d)).before args s = true := by
  rcases h with h | ⟨t, h⟩
  · exact vx_isRef h rfl
  · exact vx_isRef h rfl
/-- the same frame, seen from here: as if the method were called anew in this heap -/
theorem vx_rebase {T : State} (X : Stand p l e R s m args below meth c T locs cells slots) {R' : Room} (hf : R'.frames ≤ R.frames) (hl : R'.locals ≤ R.locals) (hc : cells + R'.cells ≤ R.cells) (hs : slots + R'.slots ≤ R.slots) :
    Stand p l e R' ((T.setVm s.vm).setFrames (.invoking m args :: below)) m args below meth c T [] 0 0 := by
  have htop : (T.setVm s.vm).topJava?.isSome := X.here.top
  have hF : ((T.setVm s.vm).setFrames (.invoking m args :: below)).frames = .invoking m args :: below := State.frames_setFrames _ (State.cur_lt_of_top htop)
  obtain ⟨g₀, hg0⟩ := Option.isSome_iff_exists.mp htop
  obtain ⟨r, hr⟩ := State.topJava?_eq_some.mp hg0
  have hl9 : e.platform.stackLimits (T.setVm s.vm).me = e.platform.stackLimits s.me := X.limits
  have hb9 : (T.setVm s.vm).me.stackBytes = s.me.stackBytes := X.bytes
  refine ⟨X.admits, X.cas, X.clock, hF, ?_, X.hears, X.method, X.code, X.here, X.tail, X.warmed, ?_, ?_, ?_⟩
  · have h := X.room
    have hU : ((T.setVm s.vm).setFrames (.invoking m args :: below)).localsInUse = s.localsInUse := by
      rw [State.localsInUse_invoking hF (meth := meth) (c := c) X.method X.code, State.localsInUse_invoking X.frames X.method X.code]
    simp only [State.hasRoom, Bool.and_eq_true, decide_eq_true_eq] at h ⊢
    obtain ⟨⟨⟨⟨h1, h2, h3, h4, h5, h6⟩, h7⟩, h8⟩, h9⟩ := h
    rw [X.frames, List.length_cons] at h2 h3
    have q1 := X.heapSize
    have q2 := X.used
    simp only [hF, hU, List.length_cons, State.stackLimits_setFrames, State.stackBytes_setFrames, hl9, hb9]
    refine ⟨⟨⟨⟨by omega, by omega, by omega, by omega, by omega, h6⟩, ?_⟩, ?_⟩, X.book⟩
    · show T.heap.size + R'.cells ≤ e.platform.maxCells
      omega
    · show T.slotsUsed + R'.slots ≤ e.platform.maxSlots
      omega
  · rw [State.stackLimits_setFrames]; rfl
  · rw [State.stackBytes_setFrames]; rfl
  · refine ⟨?_, Nat.le_refl _, Nat.le_refl _, ?_, ?_, fun a c9 h9 => ⟨c9, h9, rfl, rfl, fun _ _ => rfl⟩⟩
    · obtain ⟨t, ht, -⟩ := State.frames_cons hr
      show T.setVm s.vm = { ((T.setVm s.vm).setFrames (.invoking m args :: below)).setFrames (T.setVm s.vm).frames with heap := T.heap, slotsUsed := T.slotsUsed }
      rw [State.setFrames_setFrames, State.setFrames_self ht]
      rfl
    · show T.slotsUsed = T.slotsUsed + ((T.heap.toList.drop T.heap.size).map (·.slots.size)).sum
      rw [List.drop_eq_nil_of_le (Nat.le_of_eq Array.length_toList)]
      rfl
    · show ((T.heap.toList.drop T.heap.size).map (·.slots.size)).sum ≤ 0
      rw [List.drop_eq_nil_of_le (Nat.le_of_eq Array.length_toList)]
      exact Nat.le_refl _
/-- 'throw new E()': new; dup; invokespecial; athrow -/
theorem vx_throw0 {cc : ByteArray} {pc : Nat} (hexec : p.tables.exec = Jvm.exec) (hb : c.code = cc) (hl : l.stackTraces = false) {own cls : String} {names : List String} {ik ic mc ms : Nat} {A : Nat → Prop}
    (hown : s.vm.findClass own = some m.cls) (hcls : Bundle.fit cls = true) (hnames : ∀ n ∈ names, Bundle.fit n = true)
    (hk : (Cond.classLink own ik cls).before args s = true) (hini : (Cond.initialized cls).before args s = true) (hat : ∀ w ∈ vx_at0 own ic cls names, w.before args s = true)
    (hgood : ∀ w ∈ Cond.classLink own ik cls :: Cond.initialized cls :: vx_at0 own ic cls names, vx_ot w = true)
    (hU : vx_Zq Bundle.tN "UNASSIGNED_STACK" Bundle.steD A s s.heap) (hN : vx_Zq Bundle.tN "SUPPRESSED_SENTINEL" Bundle.listD A s s.heap) (hS : va_S A s.heap H locs) (hsize : ls.size = c.maxLocals)
    (d0 : decode cc pc = .ok (.new ik, 3)) (d3 : decode cc (pc + 3) = .ok (.dup, 1)) (d4 : decode cc (pc + 4) = .ok (.invokespecial ic, 3)) (d7 : decode cc (pc + 7) = .ok (.athrow, 1))
    (hout : ∀ x ∈ c.exceptionTable.toList, covers x (pc + 7) = false)
    (hRframes : names.length + 3 < R.frames) (hRlocals : (rest.map fun v => v.category).sum + (13 * (names.length + 1) + 42) ≤ R.locals) (hRcells : cells + 1 ≤ R.cells) (hRslots : slots + 6 ≤ R.slots) (hlocks : meth.locks = false)
    (hx : ∀ t : State, s.vm.Alike t.vm → H.size ≤ t.heap.size → (∀ q : Nat, q < H.size → t.heap[q]? = H[q]?) → XC cls s t)
    (hf : ∀ z ∈ locs, free z.base) (hc : cells + 1 ≤ mc) (hs : slots + 6 ≤ ms) :
    W p l e R s m args below meth c H locs cells slots (vx_MQ below Qc XC args s mc ms free) (F0 m pc ls rest) := by
  intro T hT X
  have htr : e.platform.stackTraces = false := (show e.platform.stackTraces = l.stackTraces by rw [X.admits.platform]).trans hl
  have Y := vx_rebase X (R' := { frames := R.frames, locals := R.locals, cells := 1, slots := 6 }) (Nat.le_refl _) (Nat.le_refl _) hRcells hRslots
  obtain ⟨s', hA⟩ : ∃ z, z = (T.setVm s.vm).setFrames (.invoking m args :: below) := ⟨_, rfl⟩
  rw [← hA] at Y
  have hvm : s'.vm = s.vm := by rw [hA]; rfl
  have hhp : s'.heap = H := by rw [hA]; exact hT
  have hW0 : s.WarmedH s'.vm := by rw [hvm]; exact State.WarmedH.refl s
  have hat' : ∀ w ∈ vx_at0 own ic cls names, w.before args s' = true := fun w hw => vx_ot_at hW0 hvm.symm (hgood w (List.mem_cons_of_mem _ (List.mem_cons_of_mem _ hw))) (hat w hw)
  have hk' : (Cond.classLink own ik cls).before args s' = true := vx_ot_at hW0 hvm.symm (hgood _ List.mem_cons_self) hk
  have hini' : (Cond.initialized cls).before args s' = true := vx_ot_at hW0 hvm.symm (hgood _ (List.mem_cons_of_mem _ List.mem_cons_self)) hini
  have hU' : vx_Zq Bundle.tN "UNASSIGNED_STACK" Bundle.steD A s' s'.heap := by rw [hhp]; exact vx_Zq.moved hW0.alike (hU.kept hS.2.1)
  have hN' : vx_Zq Bundle.tN "SUPPRESSED_SENTINEL" Bundle.listD A s' s'.heap := by rw [hhp]; exact vx_Zq.moved hW0.alike (hN.kept hS.2.1)
  have h : ∀ w ∈ Bundle.ownAtoms0 own ic cls names, w.before args s' = true := vx_own hat' (vx_isRefq hU'.1) (vx_isRefq hN'.1) hU'.2.word hN'.2.word
  have hown' : s'.vm.findClass own = some m.cls := by rw [hvm]; exact hown
  have hins : (Cond.instantiable cls 6).before args s' = true := h _ (by simp [Bundle.ownAtoms0])
  obtain ⟨vm₁, cX, kX, hfX, hkX, -, -, X₁, st1⟩ := Y.newCold hexec (own := own) (C := cls) (index := ik) (n := 6) hown' hk' hins hini'
    (g := F0 m pc ls rest) rfl (by rw [hb]; exact d0) (Nat.le_refl _) (Nat.le_refl _)
  generalize hT1 : (T.setVm vm₁).pushCell { cls := cX, slots := kX.instanceTypes.map defaultValue, vm := .none } = T1 at X₁ st1
  have hcat : (Value.ref T.heap.size).category = 1 := rfl
  have hcellA : T1.heap[T.heap.size]? = some (freshCell cX kX) := by rw [← hT1]; exact State.heap_pushCell_size _ _
  have d3' : decode c.code (pc + 3) = .ok (.dup, 1) := by rw [hb]; exact d3
  obtain ⟨U, hsteps, hrun, hend, hW, hsame, ce, hce, hO⟩ := X₁.ctorThrow0 hexec htr (own := own) (cls := cls) (names := names) (ic := ic) hown' hcls hnames h (fun x hx => nomatch hx) hfX hkX hcellA (by rw [hhp, hT]; exact Nat.le_refl _)
    (g := { method := m, pc := pc + 4, locals := ls, stack := .ref T.heap.size :: .ref T.heap.size :: rest, locked := none }) rfl hsize rfl rfl (rest := rest) rfl
    (by rw [hb]; exact d4) (by rw [hb]; exact d7) hout hRframes (by simp only [List.map_cons, List.sum_cons, hcat]; omega) hlocks
  obtain ⟨f1, f2⟩ := vx_frame hsame
  rw [hhp] at f1 f2
  have hWs : s.WarmedH U.vm := State.WarmedH.trans hW0 hW
  have hcl : s.vm.findClass cls = some ce.cls := by
    have h9 := hO.cls
    rw [hvm] at h9
    exact h9
  have hall : s.sameButNew ({ U with vm := s.vm } : State) locs mc ms := by
    subst hA
    obtain ⟨e1, e2⟩ := hsame
    rw [State.setFrames_setFrames] at e1
    have h2 : (T.setVm s.vm).sameButNew ({ U with vm := s.vm } : State) [] (0 + 1) (0 + 6) := ⟨e1, e2⟩
    have h3 := X.same.trans h2
    rw [List.append_nil] at h3
    exact h3.mono hc hs
  refine ⟨U, ?_, .threw T.heap.size, hrun, hend, Or.inr ⟨T.heap.size, rfl, cls, ce, locs, hx U hWs.alike f1 (fun q hq => f2 q hq (fun z hz => nomatch hz)), hce, hO.vm, hcl, hWs, hall, hf⟩⟩
  refine st1 _ ?_
  show Steps p.tables e below (T1.setTop { method := m, pc := pc + 3, locals := ls, stack := .ref T.heap.size :: rest, locked := none }) _
  jvm_step X₁.here [X₁.here.top, hexec, d3', Value.category]
  exact hsteps
/-- 'throw new E("text")': new; dup; ldc; invokespecial; athrow -/
theorem vx_throwS {cc : ByteArray} {pc : Nat} (hexec : p.tables.exec = Jvm.exec) (hb : c.code = cc) (hl : l.stackTraces = false) {own cls text : String} {names : List String} {ik is ic mc ms sa : Nat} {A : Nat → Prop}
    (hown : s.vm.findClass own = some m.cls) (hcls : Bundle.fit cls = true) (hnames : ∀ n ∈ names, Bundle.fit n = true)
    (hk : (Cond.classLink own ik cls).before args s = true) (hini : (Cond.initialized cls).before args s = true) (hstr : vk_R own is text sa s) (hat : ∀ w ∈ vx_atS own ic cls names, w.before args s = true)
    (hgood : ∀ w ∈ Cond.classLink own ik cls :: Cond.initialized cls :: vx_atS own ic cls names, vx_ot w = true)
    (hU : vx_Zq Bundle.tN "UNASSIGNED_STACK" Bundle.steD A s s.heap) (hN : vx_Zq Bundle.tN "SUPPRESSED_SENTINEL" Bundle.listD A s s.heap) (hS : va_S A s.heap H locs) (hsize : ls.size = c.maxLocals)
    (d0 : decode cc pc = .ok (.new ik, 3)) (d3 : decode cc (pc + 3) = .ok (.dup, 1)) (d4 : decode cc (pc + 4) = .ok (.ldc is, 2)) (d6 : decode cc (pc + 6) = .ok (.invokespecial ic, 3)) (d9 : decode cc (pc + 9) = .ok (.athrow, 1))
    (hout : ∀ x ∈ c.exceptionTable.toList, covers x (pc + 9) = false)
    (hRframes : names.length + 3 < R.frames) (hRlocals : (rest.map fun v => v.category).sum + (13 * (names.length + 1) + 43) ≤ R.locals) (hRcells : cells + 1 ≤ R.cells) (hRslots : slots + 6 ≤ R.slots) (hlocks : meth.locks = false)
    (hx : ∀ t : State, s.vm.Alike t.vm → H.size ≤ t.heap.size → (∀ q : Nat, q < H.size → t.heap[q]? = H[q]?) → XC cls s t)
    (hf : ∀ z ∈ locs, free z.base) (hc : cells + 1 ≤ mc) (hs : slots + 6 ≤ ms) :
    W p l e R s m args below meth c H locs cells slots (vx_MQ below Qc XC args s mc ms free) (F0 m pc ls rest) := by
  intro T hT X
  have htr : e.platform.stackTraces = false := (show e.platform.stackTraces = l.stackTraces by rw [X.admits.platform]).trans hl
  have Y := vx_rebase X (R' := { frames := R.frames, locals := R.locals, cells := 1, slots := 6 }) (Nat.le_refl _) (Nat.le_refl _) hRcells hRslots
  obtain ⟨s', hA⟩ : ∃ z, z = (T.setVm s.vm).setFrames (.invoking m args :: below) := ⟨_, rfl⟩
  rw [← hA] at Y
  have hvm : s'.vm = s.vm := by rw [hA]; rfl
  have hhp : s'.heap = H := by rw [hA]; exact hT
  have hW0 : s.WarmedH s'.vm := by rw [hvm]; exact State.WarmedH.refl s
  have hat' : ∀ w ∈ vx_atS own ic cls names, w.before args s' = true := fun w hw => vx_ot_at hW0 hvm.symm (hgood w (List.mem_cons_of_mem _ (List.mem_cons_of_mem _ hw))) (hat w hw)
  have hk' : (Cond.classLink own ik cls).before args s' = true := vx_ot_at hW0 hvm.symm (hgood _ List.mem_cons_self) hk
  have hini' : (Cond.initialized cls).before args s' = true := vx_ot_at hW0 hvm.symm (hgood _ (List.mem_cons_of_mem _ List.mem_cons_self)) hini
  have hU' : vx_Zq Bundle.tN "UNASSIGNED_STACK" Bundle.steD A s' s'.heap := by rw [hhp]; exact vx_Zq.moved hW0.alike (hU.kept hS.2.1)
  have hN' : vx_Zq Bundle.tN "SUPPRESSED_SENTINEL" Bundle.listD A s' s'.heap := by rw [hhp]; exact vx_Zq.moved hW0.alike (hN.kept hS.2.1)
  have h : ∀ w ∈ Bundle.ownAtoms own ic cls names, w.before args s' = true := vx_own hat' (vx_isRefq hU'.1) (vx_isRefq hN'.1) hU'.2.word hN'.2.word
  have hown' : s'.vm.findClass own = some m.cls := by rw [hvm]; exact hown
  have hins : (Cond.instantiable cls 6).before args s' = true := h _ (by simp [Bundle.ownAtoms])
  obtain ⟨vm₁, cX, kX, hfX, hkX, -, -, X₁, st1⟩ := Y.newCold hexec (own := own) (C := cls) (index := ik) (n := 6) hown' hk' hins hini'
    (g := F0 m pc ls rest) rfl (by rw [hb]; exact d0) (Nat.le_refl _) (Nat.le_refl _)
  generalize hT1 : (T.setVm vm₁).pushCell { cls := cX, slots := kX.instanceTypes.map defaultValue, vm := .none } = T1 at X₁ st1
  have hcat : (Value.ref T.heap.size).category = 1 := rfl
  have hcellA : T1.heap[T.heap.size]? = some (freshCell cX kX) := by rw [← hT1]; exact State.heap_pushCell_size _ _
  have d3' : decode c.code (pc + 3) = .ok (.dup, 1) := by rw [hb]; exact d3
  have d4' : decode c.code (pc + 4) = .ok (.ldc is, 2) := by rw [hb]; exact d4
  have hstr' : vk_R own is text sa s' := vk_R.warm hW0 hstr
  obtain ⟨U, hsteps, hrun, hend, hW, hsame, ce, hce, hO⟩ := X₁.ctorThrowS hexec htr (own := own) (cls := cls) (names := names) (ic := ic) hown' hcls hnames h (fun x hx => nomatch hx) hfX hkX hcellA (by rw [hhp, hT]; exact Nat.le_refl _) (msg := .ref sa) rfl
    (g := { method := m, pc := pc + 6, locals := ls, stack := .ref sa :: .ref T.heap.size :: .ref T.heap.size :: rest, locked := none }) rfl hsize rfl rfl (rest := rest) rfl
    (by rw [hb]; exact d6) (by rw [hb]; exact d9) hout hRframes (by simp only [List.map_cons, List.sum_cons, hcat]; omega) hlocks
  obtain ⟨f1, f2⟩ := vx_frame hsame
  rw [hhp] at f1 f2
  have hWs : s.WarmedH U.vm := State.WarmedH.trans hW0 hW
  have hcl : s.vm.findClass cls = some ce.cls := by
    have h9 := hO.cls
    rw [hvm] at h9
    exact h9
  have hall : s.sameButNew ({ U with vm := s.vm } : State) locs mc ms := by
    subst hA
    obtain ⟨e1, e2⟩ := hsame
    rw [State.setFrames_setFrames] at e1
    have h2 : (T.setVm s.vm).sameButNew ({ U with vm := s.vm } : State) [] (0 + 1) (0 + 6) := ⟨e1, e2⟩
    have h3 := X.same.trans h2
    rw [List.append_nil] at h3
    exact h3.mono hc hs
  refine ⟨U, ?_, .threw T.heap.size, hrun, hend, Or.inr ⟨T.heap.size, rfl, cls, ce, locs, hx U hWs.alike f1 (fun q hq => f2 q hq (fun z hz => nomatch hz)), hce, hO.vm, hcl, hWs, hall, hf⟩⟩
  refine st1 _ ?_
  show Steps p.tables e below (T1.setTop { method := m, pc := pc + 3, locals := ls, stack := .ref T.heap.size :: rest, locked := none }) _
  jvm_step X₁.here [X₁.here.top, hexec, d3', Value.category]
  exact X₁.ldcString hexec (own := own) (text := text) (index := is) (a := sa) hown' hstr'.1 hstr'.2
    (g := { method := m, pc := pc + 4, locals := ls, stack := .ref T.heap.size :: .ref T.heap.size :: rest, locked := none }) rfl d4' _ hsteps
/-- 'throw new E("text")', the text by a wide index -/
theorem vx_throwSW {cc : ByteArray} {pc : Nat} (hexec : p.tables.exec = Jvm.exec) (hb : c.code = cc) (hl : l.stackTraces = false) {own cls text : String} {names : List String} {ik is ic mc ms sa : Nat} {A : Nat → Prop}
    (hown : s.vm.findClass own = some m.cls) (hcls : Bundle.fit cls = true) (hnames : ∀ n ∈ names, Bundle.fit n = true)
    (hk : (Cond.classLink own ik cls).before args s = true) (hini : (Cond.initialized cls).before args s = true) (hstr : vk_R own is text sa s) (hat : ∀ w ∈ vx_atS own ic cls names, w.before args s = true)
    (hgood : ∀ w ∈ Cond.classLink own ik cls :: Cond.initialized cls :: vx_atS own ic cls names, vx_ot w = true)
    (hU : vx_Zq Bundle.tN "UNASSIGNED_STACK" Bundle.steD A s s.heap) (hN : vx_Zq Bundle.tN "SUPPRESSED_SENTINEL" Bundle.listD A s s.heap) (hS : va_S A s.heap H locs) (hsize : ls.size = c.maxLocals)
    (d0 : decode cc pc = .ok (.new ik, 3)) (d3 : decode cc (pc + 3) = .ok (.dup, 1)) (d4 : decode cc (pc + 4) = .ok (.ldc_w is, 3)) (d7 : decode cc (pc + 7) = .ok (.invokespecial ic, 3)) (d10 : decode cc (pc + 10) = .ok (.athrow, 1))
    (hout : ∀ x ∈ c.exceptionTable.toList, covers x (pc + 10) = false)
    (hRframes : names.length + 3 < R.frames) (hRlocals : (rest.map fun v => v.category).sum + (13 * (names.length + 1) + 43) ≤ R.locals) (hRcells : cells + 1 ≤ R.cells) (hRslots : slots + 6 ≤ R.slots) (hlocks : meth.locks = false)
    (hx : ∀ t : State, s.vm.Alike t.vm → H.size ≤ t.heap.size → (∀ q : Nat, q < H.size → t.heap[q]? = H[q]?) → XC cls s t)
    (hf : ∀ z ∈ locs, free z.base) (hc : cells + 1 ≤ mc) (hs : slots + 6 ≤ ms) :
    W p l e R s m args below meth c H locs cells slots (vx_MQ below Qc XC args s mc ms free) (F0 m pc ls rest) := by
  intro T hT X
  have htr : e.platform.stackTraces = false := (show e.platform.stackTraces = l.stackTraces by rw [X.admits.platform]).trans hl
  have Y := vx_rebase X (R' := { frames := R.frames, locals := R.locals, cells := 1, slots := 6 }) (Nat.le_refl _) (Nat.le_refl _) hRcells hRslots
  obtain ⟨s', hA⟩ : ∃ z, z = (T.setVm s.vm).setFrames (.invoking m args :: below) := ⟨_, rfl⟩
  rw [← hA] at Y
  have hvm : s'.vm = s.vm := by rw [hA]; rfl
  have hhp : s'.heap = H := by rw [hA]; exact hT
  have hW0 : s.WarmedH s'.vm := by rw [hvm]; exact State.WarmedH.refl s
  have hat' : ∀ w ∈ vx_atS own ic cls names, w.before args s' = true := fun w hw => vx_ot_at hW0 hvm.symm (hgood w (List.mem_cons_of_mem _ (List.mem_cons_of_mem _ hw))) (hat w hw)
  have hk' : (Cond.classLink own ik cls).before args s' = true := vx_ot_at hW0 hvm.symm (hgood _ List.mem_cons_self) hk
  have hini' : (Cond.initialized cls).before args s' = true := vx_ot_at hW0 hvm.symm (hgood _ (List.mem_cons_of_mem _ List.mem_cons_self)) hini
  have hU' : vx_Zq Bundle.tN "UNASSIGNED_STACK" Bundle.steD A s' s'.heap := by rw [hhp]; exact vx_Zq.moved hW0.alike (hU.kept hS.2.1)
  have hN' : vx_Zq Bundle.tN "SUPPRESSED_SENTINEL" Bundle.listD A s' s'.heap := by rw [hhp]; exact vx_Zq.moved hW0.alike (hN.kept hS.2.1)
  have h : ∀ w ∈ Bundle.ownAtoms own ic cls names, w.before args s' = true := vx_own hat' (vx_isRefq hU'.1) (vx_isRefq hN'.1) hU'.2.word hN'.2.word
  have hown' : s'.vm.findClass own = some m.cls := by rw [hvm]; exact hown
  have hins : (Cond.instantiable cls 6).before args s' = true := h _ (by simp [Bundle.ownAtoms])
  obtain ⟨vm₁, cX, kX, hfX, hkX, -, -, X₁, st1⟩ := Y.newCold hexec (own := own) (C := cls) (index := ik) (n := 6) hown' hk' hins hini'
    (g := F0 m pc ls rest) rfl (by rw [hb]; exact d0) (Nat.le_refl _) (Nat.le_refl _)
  generalize hT1 : (T.setVm vm₁).pushCell { cls := cX, slots := kX.instanceTypes.map defaultValue, vm := .none } = T1 at X₁ st1
  have hcat : (Value.ref T.heap.size).category = 1 := rfl
  have hcellA : T1.heap[T.heap.size]? = some (freshCell cX kX) := by rw [← hT1]; exact State.heap_pushCell_size _ _
  have d3' : decode c.code (pc + 3) = .ok (.dup, 1) := by rw [hb]; exact d3
  have d4' : decode c.code (pc + 4) = .ok (.ldc_w is, 3) := by rw [hb]; exact d4
  have hstr' : vk_R own is text sa s' := vk_R.warm hW0 hstr
  obtain ⟨U, hsteps, hrun, hend, hW, hsame, ce, hce, hO⟩ := X₁.ctorThrowS hexec htr (own := own) (cls := cls) (names := names) (ic := ic) hown' hcls hnames h (fun x hx => nomatch hx) hfX hkX hcellA (by rw [hhp, hT]; exact Nat.le_refl _) (msg := .ref sa) rfl
    (g := { method := m, pc := pc + 7, locals := ls, stack := .ref sa :: .ref T.heap.size :: .ref T.heap.size :: rest, locked := none }) rfl hsize rfl rfl (rest := rest) rfl
    (by rw [hb]; exact d7) (by rw [hb]; exact d10) hout hRframes (by simp only [List.map_cons, List.sum_cons, hcat]; omega) hlocks
  obtain ⟨f1, f2⟩ := vx_frame hsame
  rw [hhp] at f1 f2
  have hWs : s.WarmedH U.vm := State.WarmedH.trans hW0 hW
  have hcl : s.vm.findClass cls = some ce.cls := by
    have h9 := hO.cls
    rw [hvm] at h9
    exact h9
  have hall : s.sameButNew ({ U with vm := s.vm } : State) locs mc ms := by
    subst hA
    obtain ⟨e1, e2⟩ := hsame
    rw [State.setFrames_setFrames] at e1
    have h2 : (T.setVm s.vm).sameButNew ({ U with vm := s.vm } : State) [] (0 + 1) (0 + 6) := ⟨e1, e2⟩
    have h3 := X.same.trans h2
    rw [List.append_nil] at h3
    exact h3.mono hc hs
  refine ⟨U, ?_, .threw T.heap.size, hrun, hend, Or.inr ⟨T.heap.size, rfl, cls, ce, locs, hx U hWs.alike f1 (fun q hq => f2 q hq (fun z hz => nomatch hz)), hce, hO.vm, hcl, hWs, hall, hf⟩⟩
  refine st1 _ ?_
  show Steps p.tables e below (T1.setTop { method := m, pc := pc + 3, locals := ls, stack := .ref T.heap.size :: rest, locked := none }) _
  jvm_step X₁.here [X₁.here.top, hexec, d3', Value.category]
  exact X₁.ldcStringW hexec (own := own) (text := text) (index := is) (a := sa) hown' hstr'.1 hstr'.2
    (g := { method := m, pc := pc + 4, locals := ls, stack := .ref T.heap.size :: .ref T.heap.size :: rest, locked := none }) rfl d4' _ hsteps
end Ends
section Bodies
variable {l : Launch}
theorem vx_ofW {y : MethodName} {ws ws' : List Cond} {rm : Room} {Pc : Array Value → State → Prop} {Qc : Array Value → State → Outcome → State → Prop} {XC : String → State → State → Prop} {mc ms : Nat} {free : Addr → Prop} {cc : ByteArray} {maxL : Nat} {ret : Option FieldType}
    (hy : plainName y.cls = true) (hw : ws = Cond.code y cc maxL ret :: ws')
    (body : ∀ p e s m args below meth c s₁, BodyLoose p l y (headSpec ws rm) cc maxL ret e s m args below meth c s₁ → c.maxLocals = maxL → (∀ x ∈ c.exceptionTable.toList, False) → Pc args s →
      W p l e (headSpec ws rm).room s m args below meth c s.heap [] 0 0 (vx_MQ below Qc XC args s mc ms free) (entryFrame m args maxL)) : vx_Met l y ws rm Pc Qc XC mc ms free := by
  refine MetFree.of_bodyS (code := cc) (maxLocals := maxL) (ret := ret) hy ?_ ?_
  · intro args s m h hn
    obtain ⟨meth, c, h1, h2, h3, h4, h5, h6, -, -⟩ := Cond.code_spec hn (atoms_spec (ws := ws) h _ (by rw [hw]; exact List.mem_cons_self))
    exact ⟨meth, c, h1, h2, h3, h4, h5, h6⟩
  · intro p e s m args below meth c s₁ B hml hP _
    have hh0 : s₁.heap = s.heap := by rw [B.state]; rfl
    have ht : ∀ x ∈ c.exceptionTable.toList, False := by
      obtain ⟨meth9, c9, h1, h2, -, -, -, -, h7, -⟩ := Cond.code_spec B.named (atoms_spec (ws := ws) B.pre _ (by rw [hw]; exact List.mem_cons_self))
      cases Option.some.inj (h1.symm.trans B.method)
      cases Option.some.inj (h2.symm.trans (Stand.of_body B).code)
      intro x hx
      rw [Array.isEmpty_iff.mp h7] at hx
      cases hx
    obtain ⟨t, a1, o, b1, b2, b3⟩ := body p e s m args below meth c s₁ B hml ht hP s₁ hh0 (Stand.of_body B)
    exact ⟨t, o, a1, b1, b2, b3⟩
/-- the table of a body with handlers -/
theorem vx_table {p : Program} {x y : MethodName} {S : Spec} {cc bytes : ByteArray} {maxL maxL' : Nat} {ret ret' : Option FieldType} {e : Env} {s s₁ : State} {m : MethodId} {args : Array Value} {below : List Frame} {meth : Method} {c : Code} {hh : List (Nat × Nat × Nat × Nat)}
    (B : BodyLoose p l y S cc maxL ret e s m args below meth c s₁) (h : (Cond.codeWith y bytes maxL' ret' hh).before args s = true) : c.exceptionTable.toList = tableOf hh := by
  obtain ⟨m9, meth9, c9, hn9, h1, h2, -, -, h6, -⟩ := Cond.codeWith_spec h
  cases Option.some.inj (hn9.symm.trans B.named)
  cases Option.some.inj (h1.symm.trans B.method)
  cases Option.some.inj (h2.symm.trans (Stand.of_body B).code)
  rw [← h6, table_eq]
end Bodies
end VXA
/-! ===== END ===== -/
/-! ===== BEGIN a static call of a method with an exception table ===== -/
section VXS
variable {p : Program} {l : Launch} {e : Env} {R : Room} {s : State} {m : MethodId} {args : Array Value} {below : List Frame} {meth : Method} {c : Code} {T : State} {H : Heap} {locs : List Loc} {cells slots : Nat}
abbrev vx_CSW (R : Room) (s : State) (args : Array Value) (own : String) (index : Nat) (y : MethodName) (bytes : ByteArray) (maxL : Nat) (ret : Option FieldType) (hh : List (Nat × Nat × Nat × Nat)) (ws : List Cond) (rm : Room) (mc ms n : Nat) : Prop :=
  (rm.cells = mc ∧ rm.slots = ms ∧ rm.frames + 1 ≤ R.frames ∧ 8 + (maxL + 11) + rm.locals ≤ R.locals ∧ (∀ w ∈ ws, ∀ (a' : Array Value) (U : State), s.WarmedH U.vm → w.before a' U = true) ∧ Cond.codeWith y bytes maxL ret hh ∈ ws) ∧
  (Cond.codeWith y bytes maxL ret hh).before args s = true ∧ (Cond.initialized y.cls).before args s = true ∧ (y.cls ≠ "java/lang/invoke/MethodHandle" ∧ y.cls ≠ "java/lang/invoke/VarHandle") ∧
  (∀ sig, parseMethodDescriptor y.desc = some sig → n = sig.parameters.length) ∧ (Cond.methodLink own index y).before args s = true ∧ (Cond.static y).before args s = true
theorem vx_cwSW {own : String} {index maxL mc ms : Nat} {y : MethodName} {bytes : ByteArray} {ret : Option FieldType} {hh : List (Nat × Nat × Nat × Nat)} {Ts ws ws' : List Cond} {rm : Room} (n : Nat) (ht : ∀ w ∈ Ts, w.before args s = true) (hT : GoodIn Ts (va_wsS own index y ws)) (hw : ws = Cond.codeWith y bytes maxL ret hh :: ws') (hrc : rm.cells = mc) (hrs : rm.slots = ms)
    (hd : y.cls ≠ "java/lang/invoke/MethodHandle" ∧ y.cls ≠ "java/lang/invoke/VarHandle" ∧ (parseMethodDescriptor y.desc).map (fun d => d.parameters.length) = some n) (hR : rm.frames + 1 ≤ R.frames ∧ 8 + (maxL + 11) + rm.locals ≤ R.locals) :
    vx_CSW R s args own index y bytes maxL ret hh ws rm mc ms n := by
  have ok : ∀ w ∈ va_wsS own index y ws, w.before args s = true := fun w h => ht w (hT w h).1
  have hG : GoodIn Ts ws := fun w h => hT w (by unfold va_wsS; exact List.mem_append_right _ h)
  have hc : Cond.codeWith y bytes maxL ret hh ∈ ws := by rw [hw]; exact List.mem_cons_self
  refine ⟨⟨hrc, hrs, hR.1, hR.2, pay_in ht hG, hc⟩, ht _ (hG _ hc).1, ok _ (by simp [va_wsS]), ⟨hd.1, hd.2.1⟩, fun sig h => ?_, ok _ (by simp [va_wsS]), ok _ (by simp [va_wsS])⟩
  have h2 := hd.2.2
  rw [h] at h2
  exact (Option.some.inj h2).symm
theorem vx_callSW (X : Stand p l e R s m args below meth c T locs cells slots) (hexec : p.tables.exec = Jvm.exec) {own : String} {index : Nat} {y : MethodName} {bytes : ByteArray} {maxL : Nat} {ret : Option FieldType} {hh : List (Nat × Nat × Nat × Nat)}
    (hown : s.vm.findClass own = some m.cls) (hlink : (Cond.methodLink own index y).before args s = true) (hstat : (Cond.static y).before args s = true) (hinit : (Cond.initialized y.cls).before args s = true)
    (hcode : (Cond.codeWith y bytes maxL ret hh).before args s = true) (hy : y.cls ≠ "java/lang/invoke/MethodHandle" ∧ y.cls ≠ "java/lang/invoke/VarHandle")
    {W9 : Nat} {Pre : Pt → Array Value → Prop} {Post : Pt → Array Value → Option Value → Pt → Prop} (hK : Back l R p e below s args y 3 W9 Pre Post)
    {g : JFrame} (hg : g.method = m) (hsize : g.locals.size = c.maxLocals) {argsL rest : List Value} (hlen : ∀ sig, parseMethodDescriptor y.desc = some sig → argsL.length = sig.parameters.length)
    (hstack : g.stack = argsL.reverse ++ rest) (hW : 2 * g.monitorRoom + (rest.map fun v => v.category).sum ≤ W9) (hdg : decode c.code g.pc = .ok (.invokestatic index, 3))
    (hpre : ∀ vm₁, s.WarmedH vm₁ → Pre ⟨T.setVm vm₁, locs, cells, slots⟩ argsL.toArray) :
    ∃ (v : Option Value) (vm₁ : Vm) (B : Pt), s.WarmedH vm₁ ∧ Stand p l e R s m args below meth c B.U B.locs B.cells B.slots ∧ Post ⟨T.setVm vm₁, locs, cells, slots⟩ argsL.toArray v B ∧
      ∀ target, Steps p.tables e below (B.U.setTop { g with pc := g.pc + 3, stack := v.toList ++ rest }) target → Steps p.tables e below (T.setTop g) target := by
  obtain ⟨mk, methM, cM, hnamed, hmethM, -, -, -, -, -, -, hsigM⟩ := Cond.codeWith_spec hcode
  have hstatic : methM.isStatic = true := Cond.static_spec hnamed hmethM hstat
  obtain ⟨kP, hkP, -⟩ := className_of_methodNamed hnamed
  have hinitP : kP.init = .initialized := Cond.initialized_spec (findClass_of_methodNamed hnamed) hkP hinit
  obtain ⟨vm₁, X₁, hstep₁⟩ := X.invokestatic hexec hown hlink hnamed hmethM hstatic hkP hinitP hy (g := g) hg (argsL := argsL) (rest := rest) (hlen _ hsigM) hstack hdg
  obtain ⟨v, B, X', hpost, hsteps⟩ := hK m meth c ⟨T.setVm vm₁, locs, cells, slots⟩ { g with stack := rest } (.invokestatic index) mk argsL.toArray X₁ hg hsize hdg hW (X₁.named hnamed) (hpre vm₁ X₁.warmed)
  exact ⟨v, vm₁, B, X₁.warmed, X', hpost, fun target h => hstep₁ _ fun acts => by rw [doInvoke_state]; exact hsteps.trans h⟩
theorem vx_runSW {y : MethodName} {bytes cc : ByteArray} {maxL nL mc ms n index : Nat} {ret : Option FieldType} {hh : List (Nat × Nat × Nat × Nat)} {ws : List Cond} {rm : Room} {Pc : Array Value → State → Prop} {Qc : Array Value → State → Outcome → State → Prop} {free : Addr → Prop} {Ts : List Cond} {own : String} {As rest : List Value} {g : JFrame}
    (S : CallFix p m c cc nL s args Ts own) (hM : Met l y ws rm Pc Qc mc ms free) (cw : vx_CSW R s args own index y bytes maxL ret hh ws rm mc ms n) (hp : PreS s H Pc As)
    (hg : g.method = m) (hn : As.length = n) (hsize : g.locals.size = nL) (hstack : g.stack = As.reverse ++ rest) (hW : 2 * g.monitorRoom + (rest.map fun v => v.category).sum ≤ 8) (hdg : decode cc g.pc = .ok (.invokestatic index, 3)) (hf : cells + mc ≤ R.cells ∧ slots + ms ≤ R.slots) :
    va_Run p l e R s m args below meth c H locs cells slots mc ms g rest (Qc As.toArray) (free) := by
  obtain ⟨⟨hrc, hrs, hfr, hlo, hws, hcw⟩, hcode, hini, hy, hlen, hl, hstt⟩ := cw
  have hK : Back l R p e below s args y 3 8 (PreOf R mc ms Pc) (PostOf Qc mc ms free) := va_backW (hh := hh) (bytes := bytes) (maxL := maxL) (ret := ret) hM hp.1 hrc hrs hfr hlo hws hcw (fun a' U hW => word_at hW (Or.inl (by first | rfl | simp [Cond.onTables, Cond.keeps, Cond.steady])) hini)
  obtain ⟨hx, hb, hml, ho, -⟩ := S
  intro T hT X
  obtain ⟨v, vm₁, ⟨U', l2, c2, s2⟩, hW₁, X', ⟨g', mk, t, L, e1, e2, hq, h1, hL, h2, h3⟩, st⟩ := vx_callSW X hx (hh := hh) (bytes := bytes) (maxL := maxL) (ret := ret) ho hl hstt hini hcode hy hK hg (hsize.trans hml.symm) (argsL := As) (rest := rest) (fun sig h => hn.trans (hlen sig h)) hstack hW (by rw [hb]; exact hdg)
    (fun vm₁ hW₁ => ⟨hf.1, hf.2, hp.2 (T.setVm vm₁) hT hW₁⟩)
  dsimp only [Pt.U, Pt.locs, Pt.cells, Pt.slots] at X' e1 e2 h1 h2 h3 st
  subst h1; subst h2; subst h3
  exact ⟨v, (T.setVm vm₁).calling g' mk As.toArray, t, U', L, hT, X', hL, e1, e2, hq, st⟩
/-- not caught here, past rows that name other classes: it goes on to the caller -/
theorem vx_outP {p : Program} {l : Launch} {e : Env} {R : Room} {s : State} {m : MethodId} {args : Array Value} {below : List Frame} {meth : Method} {c : Code} {H : Heap} {locs : List Loc} {cells slots : Nat} {free : Addr → Prop} {ls : Array Slot} {rest : List Value} {Qc : Array Value → State → Outcome → State → Prop} {XC : String → State → State → Prop}
    {pc : Nat} {own E : String} {ce : Cell} {q : Addr} {mc ms : Nat} (hown : s.vm.findClass own = some m.cls) (hlocks : meth.locks = false)
    (hpass : ∀ z ∈ c.exceptionTable.toList, covers z pc = false ∨ (z.catchType ≠ 0 ∧ ∃ nm : String, (Cond.classLink own z.catchType nm).before args s = true ∧ va_Nc E nm s)) (hcell : H[q]? = some ce) (hv : ce.vm = .none) (hcl : s.vm.findClass E = some ce.cls)
    (hx : ∀ t : State, t.heap = H → s.vm.Alike t.vm → XC E s t) (hf : ∀ z ∈ locs, free z.base) (hc : cells ≤ mc) (hs : slots ≤ ms) :
    vx_W p l e R s m args below meth c H locs cells slots (vx_MQ below Qc XC args s mc ms free) (F0 m pc ls rest) q := by
  intro T hT X
  have hpl : e.platform.magicAccessors = ({} : Platform).magicAccessors := by rw [X.admits.platform]
  obtain ⟨vm', hW', X', st⟩ := X.outThrough hlocks q (g := F0 m pc ls rest) rfl rfl rfl (cell := ce) (by rw [hT]; exact hcell) (by rw [hv]; rfl)
    (by obtain ⟨k9, h9, -⟩ := Vm.findClass_spec hcl; exact ⟨k9, h9⟩) (fun z hz => by
      rcases hpass z hz with h | ⟨hz0, nm, hl1, hn1⟩
      · exact Or.inl h
      · obtain ⟨c6, hc6, hcl6⟩ := Cond.classLink_spec hown hl1 e.platform hpl
        obtain ⟨a8, b8, h1, h2, h3⟩ := hn1
        cases Option.some.inj (h1.symm.trans hcl)
        cases Option.some.inj (h2.symm.trans hc6)
        exact Or.inr ⟨hz0, _, hcl6, h3⟩)
  obtain ⟨g₀, hfr⟩ := X'.frames_eq
  have hcell9 : ((T.setVm vm').setFrames (.throwing q :: below)).heap[q]? = some ce := by
    show T.heap[q]? = some ce
    rw [hT]; exact hcell
  have hend : Ended ((T.setVm vm').setFrames (.throwing q :: below)) below (.threw q) := State.frames_setFrames _ (State.cur_lt_of_frames hfr)
  refine ⟨(T.setVm vm').setFrames (.throwing q :: below), ?_, .threw q, X'.here.running, hend, Or.inr ⟨q, rfl, E, ce, locs, hx _ hT (X'.ends _).1.alike, hcell9, hv, hcl, (X'.ends _).1, (X'.ends _).2.mono hc hs, hf⟩⟩
  rw [X.pushThrowing_eq]
  exact st
/-- a thing of a world lies in the heap -/
theorem vx_lt {D : va_G} {cl : List vw_C} {ws : va_W} {H1 : Heap} (h : va_P D cl ws H1) {k : Nat} {q : Nat × va_E} (hk : ws[k]? = some q) : q.1 < H1.size := (h k q hk).lt
end VXS
/-! ===== END ===== -/
/-! ===== BEGIN methods with a table of their own: called by a name, returning or throwing ===== -/
section VXH
/-! vx_backW, vx_callVX, vx_callSX, vx_callVW, vx_runVW, vx_runVX, vx_runSX, vx_ofWH follow the same proofs as their sisters above (Free/Laws.lean, Shelf42/LK1.lean); vx_outP calls Shelf42/NT130.lean (outThrough). -/
section
variable {l : Launch} {R : Room} {p : Program} {e : Env} {below : List Frame} {s : State} {sargs : Array Value} {y : MethodName} {len W9 : Nat}
theorem vx_backW {ws : List Cond} {rm : Room} {Pc : Array Value → State → Prop} {Qc : Array Value → State → Outcome → State → Prop} {XC : String → State → State → Prop} {mc ms : Nat} {free : Addr → Prop} {bytes : ByteArray} {maxL : Nat} {ret : Option FieldType} {hh : List (Nat × Nat × Nat × Nat)}
    (hM : vx_Met l y ws rm Pc Qc XC mc ms free) (hblind : FrameBlind Pc) (hrc : rm.cells = mc) (hrs : rm.slots = ms)
    (hframes : rm.frames + 1 ≤ R.frames) (hlocals : W9 + (maxL + 11) + rm.locals ≤ R.locals)
    (hws : ∀ w ∈ ws, ∀ a' U, s.WarmedH U.vm → w.before a' U = true) (hcode : Cond.codeWith y bytes maxL ret hh ∈ ws) (hinit : ∀ a' U, s.WarmedH U.vm → (Cond.initialized y.cls).before a' U = true) :
    vx_Back l R p e below s sargs y len W9 (PreOf R mc ms Pc) (PostOf Qc mc ms free) (vx_Post XC mc ms free) := by
  intro m meth c A g ig mk a X hg hsize hdg hW hn hp
  have h1 : (headSpec ws rm).pre.before a A.U = true := atoms_intro fun w hw => hws w hw _ _ X.warmed
  have h2 : (Cond.codeWith y bytes maxL ret hh).before a A.U = true := hws _ hcode _ _ X.warmed
  have h3 : (Cond.initialized y.cls).before a A.U = true := hinit _ _ X.warmed
  have h4 : A.cells + (headSpec ws rm).room.cells ≤ R.cells := by rw [show (headSpec ws rm).room.cells = mc from hrc]; exact hp.1
  have h5 : A.slots + (headSpec ws rm).room.slots ≤ R.slots := by rw [show (headSpec ws rm).room.slots = ms from hrs]; exact hp.2.1
  have hPc : Pc a (A.U.calling g mk a) := hblind _ _ _ _ hp.2.2
  obtain ⟨U, Ls, c0, s0⟩ := A
  dsimp only [Pt.U, Pt.locs, Pt.cells, Pt.slots] at h1 h2 h3 h4 h5 X hn hPc ⊢
  obtain ⟨m9, methY, cY, hn9, hmY, hcY, -, hlY, -⟩ := Cond.codeWith_spec h2
  cases Option.some.inj (hn9.symm.trans hn)
  obtain ⟨kY, hkY, -⟩ := className_of_methodNamed hn
  have hinitY : kY.init = .initialized := Cond.initialized_spec (findClass_of_methodNamed hn) hkY h3
  have h : At U g.method c below := by rw [hg]; exact X.here
  have hlocals9 : W9 + (maxL + 11) + (headSpec ws rm).room.locals ≤ R.locals := hlocals
  have happ : (headSpec ws rm).appliesLoose y e.platform (U.calling g mk a) = true :=
    Spec.appliesLoose_calling (g := g) h hdg hn hkY hinitY
      (X.room_calling (g := g) (R' := (headSpec ws rm).room) hsize hmY hcY hframes (by rw [hlY]; omega) h4 h5) h1
  obtain ⟨mid, hmid⟩ := h.above
  have hfr : (U.setTop g).frames = (.java g :: mid) ++ below := by rw [State.frames_setTop' g h.top, hmid]; rfl
  obtain ⟨o, s₂, hsteps, -, hend, hq⟩ := Steps.callFree hM p X.admits X.cas X.clock (acts := []) hfr happ hPc trivial
  have hq' : vx_Q Qc XC mc ms free a (U.calling g mk a) o s₂ := hq
  rw [State.frames_setTop' g h.top] at hend
  obtain ⟨g₀, hg0⟩ := Option.isSome_iff_exists.mp h.top
  obtain ⟨r, hr⟩ := State.topJava?_eq_some.mp hg0
  have hr' : (({ U with heap := s₂.heap, slotsUsed := s₂.slotsUsed } : State).setVm s₂.vm).frames = .java g₀ :: r := hr
  rcases hq' with ⟨hqc, L, hfe, hL⟩ | ⟨q, rfl, E, ce, L, hx, hce, hcv, hcl, hW₂, hsm, hL⟩
  · obtain ⟨⟨v, rfl⟩, hW₂, e2, q2, q3, q4, q5, q6⟩ := id hfe
    have e3 : s₂ = ({ (U.calling g mk a).setFrames s₂.frames with heap := s₂.heap, slotsUsed := s₂.slotsUsed } : State).setVm s₂.vm := by
      have : s₂ = ({ s₂ with vm := (U.calling g mk a).vm } : State).setVm s₂.vm := rfl
      rw [e2] at this
      exact this
    obtain ⟨c₂, i₂, len₂, hc₂, hd₂, hf₂⟩ := hend
    have hW' : U.WarmedH s₂.vm := hW₂
    have hcc : c₂ = c := by
      have h1 : s₂.code? g.method = U.code? g.method := by
        rw [State.code?_eq, State.code?_eq, hW'.alike.method?]
      exact Option.some.inj (hc₂.symm.trans (h1.trans h.code))
    subst hcc
    have hlen : len₂ = len := by rw [hdg] at hd₂; cases hd₂; rfl
    subst hlen
    have hs₂ : s₂ = (({ U with heap := s₂.heap, slotsUsed := s₂.slotsUsed } : State).setVm s₂.vm).setTop { g with pc := g.pc + len₂, stack := v.toList ++ g.stack } := by
      refine e3.trans ?_
      rw [hf₂, State.calling_eq h.top, State.setFrames_setFrames, State.setTop_of_frames _ hr', hr]
      rfl
    have hsame : U.sameButNew ({ U with heap := s₂.heap, slotsUsed := s₂.slotsUsed } : State) L mc ms := by
      refine ⟨?_, q2, q3, q4, q5, q6⟩
      obtain ⟨t, ht, -⟩ := State.frames_cons hr
      show ({ U with heap := s₂.heap, slotsUsed := s₂.slotsUsed } : State) = { U.setFrames U.frames with heap := s₂.heap, slotsUsed := s₂.slotsUsed }
      rw [State.setFrames_self ht]
    subst hg
    refine Or.inl ⟨v, ⟨(({ U with heap := s₂.heap, slotsUsed := s₂.slotsUsed } : State).setVm s₂.vm), Ls ++ L, c0 + mc, s0 + ms⟩,
      ⟨X.admits, X.cas, X.clock, X.frames, X.room, X.hears, X.method, X.code, (X.here.setHeapUsed s₂.heap s₂.slotsUsed).setVm hW'.alike, X.tail, State.WarmedH.trans X.warmed hW', X.limits, X.bytes, X.same.trans (hsame.setVm s.vm)⟩,
      ⟨g, mk, s₂, L, rfl, rfl, hqc, rfl, hL, rfl, rfl⟩, ?_⟩
    show Steps p.tables e below _ ((({ U with heap := s₂.heap, slotsUsed := s₂.slotsUsed } : State).setVm s₂.vm).setTop { g with pc := g.pc + len₂, stack := v.toList ++ g.stack })
    rw [← hs₂]
    exact hsteps
  · obtain ⟨e2, q2, q3, q4, q5, q6⟩ := id hsm
    have e3 : s₂ = ({ (U.calling g mk a).setFrames s₂.frames with heap := s₂.heap, slotsUsed := s₂.slotsUsed } : State).setVm s₂.vm := by
      have : s₂ = ({ s₂ with vm := (U.calling g mk a).vm } : State).setVm s₂.vm := rfl
      rw [e2] at this
      exact this
    have hf₂ : s₂.frames = .throwing q :: .java g :: U.frames.tail := hend
    have hW' : U.WarmedH s₂.vm := hW₂
    have hs₂ : s₂ = ((({ U with heap := s₂.heap, slotsUsed := s₂.slotsUsed } : State).setVm s₂.vm).setTop g).pushFrame (.throwing q) := by
      refine e3.trans ?_
      rw [hf₂, State.calling_eq h.top, State.setFrames_setFrames, State.pushFrame, State.frames_setTop _ hr', State.setTop_of_frames _ hr', State.setFrames_setFrames, hr]
      rfl
    have hsame : U.sameButNew ({ U with heap := s₂.heap, slotsUsed := s₂.slotsUsed } : State) L mc ms := by
      refine ⟨?_, q2, q3, q4, q5, q6⟩
      obtain ⟨t, ht, -⟩ := State.frames_cons hr
      show ({ U with heap := s₂.heap, slotsUsed := s₂.slotsUsed } : State) = { U.setFrames U.frames with heap := s₂.heap, slotsUsed := s₂.slotsUsed }
      rw [State.setFrames_self ht]
    subst hg
    refine Or.inr ⟨q, ⟨(({ U with heap := s₂.heap, slotsUsed := s₂.slotsUsed } : State).setVm s₂.vm), Ls ++ L, c0 + mc, s0 + ms⟩,
      ⟨X.admits, X.cas, X.clock, X.frames, X.room, X.hears, X.method, X.code, (X.here.setHeapUsed s₂.heap s₂.slotsUsed).setVm hW'.alike, X.tail, State.WarmedH.trans X.warmed hW', X.limits, X.bytes, X.same.trans (hsame.setVm s.vm)⟩,
      ⟨g, mk, s₂, L, E, ce, rfl, rfl, hx, hce, hcv, hcl, rfl, hL, rfl, rfl⟩, ?_⟩
    show Steps p.tables e below _ (((({ U with heap := s₂.heap, slotsUsed := s₂.slotsUsed } : State).setVm s₂.vm).setTop g).pushFrame (.throwing q))
    rw [← hs₂]
    exact hsteps
end
variable {p : Program} {l : Launch} {e : Env} {R : Room} {s : State} {m : MethodId} {args : Array Value} {below : List Frame} {meth : Method} {c : Code} {T : State} {H : Heap} {locs : List Loc} {cells slots : Nat}
theorem vx_callVX (X : Stand p l e R s m args below meth c T locs cells slots) (hexec : p.tables.exec = Jvm.exec) {own C : String} {index : Nat} {y : MethodName} {bytes : ByteArray} {maxL : Nat} {ret : Option FieldType} {hh : List (Nat × Nat × Nat × Nat)}
    (hown : s.vm.findClass own = some m.cls) (hlink : (Cond.methodLink own index y).before args s = true) (hinst : (Cond.instanceMethod y).before args s = true) (hsel : (Cond.selects C y y).before args s = true)
    (hcode : (Cond.codeWith y bytes maxL ret hh).before args s = true) (hy : y.cls ≠ "java/lang/invoke/MethodHandle" ∧ y.cls ≠ "java/lang/invoke/VarHandle")
    {W9 : Nat} {Pre : Pt → Array Value → Prop} {Post : Pt → Array Value → Option Value → Pt → Prop} {PostX : Pt → Array Value → Addr → Pt → Prop} (hK : vx_Back l R p e below s args y 3 W9 Pre Post PostX)
    {b : Addr} {cellB : Cell} (hcell : T.heap[b]? = some cellB) (hobj : cellB.vm.isStatics = false) (hcls : s.vm.findClass C = some cellB.cls)
    {g : JFrame} (hg : g.method = m) (hsize : g.locals.size = c.maxLocals) {argsL rest : List Value} (hlen : ∀ sig, parseMethodDescriptor y.desc = some sig → argsL.length = sig.parameters.length)
    (hstack : g.stack = argsL.reverse ++ .ref b :: rest) (hW : 2 * g.monitorRoom + (rest.map fun v => v.category).sum ≤ W9) (hdg : decode c.code g.pc = .ok (.invokevirtual index, 3))
    (hpre : ∀ vm₁, s.WarmedH vm₁ → Pre ⟨T.setVm vm₁, locs, cells, slots⟩ (Value.ref b :: argsL).toArray) :
    (∃ (v : Option Value) (vm₁ : Vm) (B : Pt), s.WarmedH vm₁ ∧ Stand p l e R s m args below meth c B.U B.locs B.cells B.slots ∧ Post ⟨T.setVm vm₁, locs, cells, slots⟩ (Value.ref b :: argsL).toArray v B ∧
      ∀ target, Steps p.tables e below (B.U.setTop { g with pc := g.pc + 3, stack := v.toList ++ rest }) target → Steps p.tables e below (T.setTop g) target) ∨
    (∃ (q : Addr) (vm₁ : Vm) (B : Pt), s.WarmedH vm₁ ∧ Stand p l e R s m args below meth c B.U B.locs B.cells B.slots ∧ PostX ⟨T.setVm vm₁, locs, cells, slots⟩ (Value.ref b :: argsL).toArray q B ∧
      Steps p.tables e below (T.setTop g) ((B.U.setTop { g with stack := rest }).pushFrame (.throwing q))) := by
  obtain ⟨mk, methM, hnamed, hmethM, hstM, habM⟩ := Cond.instanceMethod_spec hinst
  obtain ⟨m8, methM', cM, hn8, hmethM', -, -, -, -, -, -, hsigM⟩ := Cond.codeWith_spec hcode
  cases Option.some.inj (hn8.symm.trans hnamed)
  cases hmethM.symm.trans hmethM'
  obtain ⟨c2, r2, m2, q1, q2, q3, q4, kP, hkP, hkPi⟩ := Cond.selects_spec hsel
  cases hcls.symm.trans q1
  cases (State.methodFound?_of_named hnamed hy).symm.trans q2
  cases hnamed.symm.trans q3
  have hselP : selectMethod e.platform s.vm cellB.cls mk = .method mk := by rw [Launch.admits_selectMethod X.admits]; exact q4
  obtain ⟨vm₁, X₁, hstep₁⟩ := X.invokevirtual hexec hown hlink hnamed hmethM hstM hkP hkPi hy (a := b) (cell := cellB) hcell
    (fun z h => by rw [h] at hobj; cases hobj) hselP hmethM habM hkP hkPi (g := g) hg (argsL := argsL) (rest := rest) (hlen _ hsigM) hstack hdg
  rcases hK m meth c ⟨T.setVm vm₁, locs, cells, slots⟩ { g with stack := rest } (.invokevirtual index) mk (Value.ref b :: argsL).toArray X₁ hg hsize hdg hW (X₁.named hnamed) (hpre vm₁ X₁.warmed) with ⟨v, B, X', hpost, hsteps⟩ | ⟨q, B, X', hpost, hsteps⟩
  · exact Or.inl ⟨v, vm₁, B, X₁.warmed, X', hpost, fun target h => hstep₁ _ fun acts => by rw [doInvoke_state]; exact hsteps.trans h⟩
  · exact Or.inr ⟨q, vm₁, B, X₁.warmed, X', hpost, hstep₁ _ fun acts => by rw [doInvoke_state]; exact hsteps⟩
theorem vx_callSX (X : Stand p l e R s m args below meth c T locs cells slots) (hexec : p.tables.exec = Jvm.exec) {own : String} {index : Nat} {y : MethodName} {bytes : ByteArray} {maxL : Nat} {ret : Option FieldType} {hh : List (Nat × Nat × Nat × Nat)}
    (hown : s.vm.findClass own = some m.cls) (hlink : (Cond.methodLink own index y).before args s = true) (hstat : (Cond.static y).before args s = true) (hinit : (Cond.initialized y.cls).before args s = true)
    (hcode : (Cond.codeWith y bytes maxL ret hh).before args s = true) (hy : y.cls ≠ "java/lang/invoke/MethodHandle" ∧ y.cls ≠ "java/lang/invoke/VarHandle")
    {W9 : Nat} {Pre : Pt → Array Value → Prop} {Post : Pt → Array Value → Option Value → Pt → Prop} {PostX : Pt → Array Value → Addr → Pt → Prop} (hK : vx_Back l R p e below s args y 3 W9 Pre Post PostX)
    {g : JFrame} (hg : g.method = m) (hsize : g.locals.size = c.maxLocals) {argsL rest : List Value} (hlen : ∀ sig, parseMethodDescriptor y.desc = some sig → argsL.length = sig.parameters.length)
    (hstack : g.stack = argsL.reverse ++ rest) (hW : 2 * g.monitorRoom + (rest.map fun v => v.category).sum ≤ W9) (hdg : decode c.code g.pc = .ok (.invokestatic index, 3))
    (hpre : ∀ vm₁, s.WarmedH vm₁ → Pre ⟨T.setVm vm₁, locs, cells, slots⟩ argsL.toArray) :
    (∃ (v : Option Value) (vm₁ : Vm) (B : Pt), s.WarmedH vm₁ ∧ Stand p l e R s m args below meth c B.U B.locs B.cells B.slots ∧ Post ⟨T.setVm vm₁, locs, cells, slots⟩ argsL.toArray v B ∧
      ∀ target, Steps p.tables e below (B.U.setTop { g with pc := g.pc + 3, stack := v.toList ++ rest }) target → Steps p.tables e below (T.setTop g) target) ∨
    (∃ (q : Addr) (vm₁ : Vm) (B : Pt), s.WarmedH vm₁ ∧ Stand p l e R s m args below meth c B.U B.locs B.cells B.slots ∧ PostX ⟨T.setVm vm₁, locs, cells, slots⟩ argsL.toArray q B ∧
      Steps p.tables e below (T.setTop g) ((B.U.setTop { g with stack := rest }).pushFrame (.throwing q))) := by
  obtain ⟨mk, methM, cM, hnamed, hmethM, -, -, -, -, -, -, hsigM⟩ := Cond.codeWith_spec hcode
  have hstatic : methM.isStatic = true := Cond.static_spec hnamed hmethM hstat
  obtain ⟨kP, hkP, -⟩ := className_of_methodNamed hnamed
  have hinitP : kP.init = .initialized := Cond.initialized_spec (findClass_of_methodNamed hnamed) hkP hinit
  obtain ⟨vm₁, X₁, hstep₁⟩ := X.invokestatic hexec hown hlink hnamed hmethM hstatic hkP hinitP hy (g := g) hg (argsL := argsL) (rest := rest) (hlen _ hsigM) hstack hdg
  rcases hK m meth c ⟨T.setVm vm₁, locs, cells, slots⟩ { g with stack := rest } (.invokestatic index) mk argsL.toArray X₁ hg hsize hdg hW (X₁.named hnamed) (hpre vm₁ X₁.warmed) with ⟨v, B, X', hpost, hsteps⟩ | ⟨q, B, X', hpost, hsteps⟩
  · exact Or.inl ⟨v, vm₁, B, X₁.warmed, X', hpost, fun target h => hstep₁ _ fun acts => by rw [doInvoke_state]; exact hsteps.trans h⟩
  · exact Or.inr ⟨q, vm₁, B, X₁.warmed, X', hpost, hstep₁ _ fun acts => by rw [doInvoke_state]; exact hsteps⟩
theorem vx_callVW (X : Stand p l e R s m args below meth c T locs cells slots) (hexec : p.tables.exec = Jvm.exec) {own C : String} {index : Nat} {y : MethodName} {bytes : ByteArray} {maxL : Nat} {ret : Option FieldType} {hh : List (Nat × Nat × Nat × Nat)}
    (hown : s.vm.findClass own = some m.cls) (hlink : (Cond.methodLink own index y).before args s = true) (hinst : (Cond.instanceMethod y).before args s = true) (hsel : (Cond.selects C y y).before args s = true)
    (hcode : (Cond.codeWith y bytes maxL ret hh).before args s = true) (hy : y.cls ≠ "java/lang/invoke/MethodHandle" ∧ y.cls ≠ "java/lang/invoke/VarHandle")
    {W9 : Nat} {Pre : Pt → Array Value → Prop} {Post : Pt → Array Value → Option Value → Pt → Prop} (hK : Back l R p e below s args y 3 W9 Pre Post)
    {b : Addr} {cellB : Cell} (hcell : T.heap[b]? = some cellB) (hobj : cellB.vm.isStatics = false) (hcls : s.vm.findClass C = some cellB.cls)
    {g : JFrame} (hg : g.method = m) (hsize : g.locals.size = c.maxLocals) {argsL rest : List Value} (hlen : ∀ sig, parseMethodDescriptor y.desc = some sig → argsL.length = sig.parameters.length)
    (hstack : g.stack = argsL.reverse ++ .ref b :: rest) (hW : 2 * g.monitorRoom + (rest.map fun v => v.category).sum ≤ W9) (hdg : decode c.code g.pc = .ok (.invokevirtual index, 3))
    (hpre : ∀ vm₁, s.WarmedH vm₁ → Pre ⟨T.setVm vm₁, locs, cells, slots⟩ (Value.ref b :: argsL).toArray) :
    ∃ (v : Option Value) (vm₁ : Vm) (B : Pt), s.WarmedH vm₁ ∧ Stand p l e R s m args below meth c B.U B.locs B.cells B.slots ∧ Post ⟨T.setVm vm₁, locs, cells, slots⟩ (Value.ref b :: argsL).toArray v B ∧
      ∀ target, Steps p.tables e below (B.U.setTop { g with pc := g.pc + 3, stack := v.toList ++ rest }) target → Steps p.tables e below (T.setTop g) target := by
  obtain ⟨mk, methM, hnamed, hmethM, hstM, habM⟩ := Cond.instanceMethod_spec hinst
  obtain ⟨m8, methM', cM, hn8, hmethM', -, -, -, -, -, -, hsigM⟩ := Cond.codeWith_spec hcode
  cases Option.some.inj (hn8.symm.trans hnamed)
  cases hmethM.symm.trans hmethM'
  obtain ⟨c2, r2, m2, q1, q2, q3, q4, kP, hkP, hkPi⟩ := Cond.selects_spec hsel
  cases hcls.symm.trans q1
  cases (State.methodFound?_of_named hnamed hy).symm.trans q2
  cases hnamed.symm.trans q3
  have hselP : selectMethod e.platform s.vm cellB.cls mk = .method mk := by rw [Launch.admits_selectMethod X.admits]; exact q4
  obtain ⟨vm₁, X₁, hstep₁⟩ := X.invokevirtual hexec hown hlink hnamed hmethM hstM hkP hkPi hy (a := b) (cell := cellB) hcell
    (fun z h => by rw [h] at hobj; cases hobj) hselP hmethM habM hkP hkPi (g := g) hg (argsL := argsL) (rest := rest) (hlen _ hsigM) hstack hdg
  obtain ⟨v, B, X', hpost, hsteps⟩ := hK m meth c ⟨T.setVm vm₁, locs, cells, slots⟩ { g with stack := rest } (.invokevirtual index) mk (Value.ref b :: argsL).toArray X₁ hg hsize hdg hW (X₁.named hnamed) (hpre vm₁ X₁.warmed)
  exact ⟨v, vm₁, B, X₁.warmed, X', hpost, fun target h => hstep₁ _ fun acts => by rw [doInvoke_state]; exact hsteps.trans h⟩
abbrev vx_CVW (R : Room) (s : State) (args : Array Value) (own C : String) (index : Nat) (y : MethodName) (bytes : ByteArray) (maxL : Nat) (ret : Option FieldType) (hh : List (Nat × Nat × Nat × Nat)) (ws : List Cond) (rm : Room) (mc ms n : Nat) : Prop :=
  (rm.cells = mc ∧ rm.slots = ms ∧ rm.frames + 1 ≤ R.frames ∧ 8 + (maxL + 11) + rm.locals ≤ R.locals ∧ (∀ w ∈ ws, ∀ (a' : Array Value) (U : State), s.WarmedH U.vm → w.before a' U = true) ∧ Cond.codeWith y bytes maxL ret hh ∈ ws) ∧
  (Cond.codeWith y bytes maxL ret hh).before args s = true ∧ (Cond.initialized y.cls).before args s = true ∧ (y.cls ≠ "java/lang/invoke/MethodHandle" ∧ y.cls ≠ "java/lang/invoke/VarHandle") ∧
  (∀ sig, parseMethodDescriptor y.desc = some sig → n = sig.parameters.length) ∧ (Cond.methodLink own index y).before args s = true ∧ (Cond.instanceMethod y).before args s = true ∧ (Cond.selects C y y).before args s = true
theorem vx_cwVW {own C : String} {index maxL mc ms : Nat} {y : MethodName} {bytes : ByteArray} {ret : Option FieldType} {hh : List (Nat × Nat × Nat × Nat)} {Ts ws ws' : List Cond} {rm : Room} (n : Nat) (ht : ∀ w ∈ Ts, w.before args s = true) (hT : GoodIn Ts (wsV own index C y ws)) (hw : ws = Cond.codeWith y bytes maxL ret hh :: ws') (hrc : rm.cells = mc) (hrs : rm.slots = ms)
    (hd : y.cls = C ∧ y.cls ≠ "java/lang/invoke/MethodHandle" ∧ y.cls ≠ "java/lang/invoke/VarHandle" ∧ (parseMethodDescriptor y.desc).map (fun d => d.parameters.length) = some n) (hR : rm.frames + 1 ≤ R.frames ∧ 8 + (maxL + 11) + rm.locals ≤ R.locals) :
    vx_CVW R s args own C index y bytes maxL ret hh ws rm mc ms n := by
  obtain ⟨hC, hd⟩ := hd
  subst hC
  have ok : ∀ w ∈ wsV own index y.cls y ws, w.before args s = true := fun w h => ht w (hT w h).1
  have hG : GoodIn Ts ws := fun w h => hT w (by unfold wsV; exact List.mem_append_right _ h)
  have hc : Cond.codeWith y bytes maxL ret hh ∈ ws := by rw [hw]; exact List.mem_cons_self
  refine ⟨⟨hrc, hrs, hR.1, hR.2, pay_in ht hG, hc⟩, ht _ (hG _ hc).1, ok _ (by simp [wsV]), ⟨hd.1, hd.2.1⟩, fun sig h => ?_, ok _ (by simp [wsV]), ok _ (by simp [wsV]), ok _ (by simp [wsV])⟩
  have h2 := hd.2.2
  rw [h] at h2
  exact (Option.some.inj h2).symm
theorem vx_runVW {y : MethodName} {bytes cc : ByteArray} {maxL nL mc ms n index : Nat} {ret : Option FieldType} {hh : List (Nat × Nat × Nat × Nat)} {ws : List Cond} {rm : Room} {Pc : Array Value → State → Prop} {Qc : Array Value → State → Outcome → State → Prop} {free : Addr → Prop} {Ts : List Cond} {own C : String} {b : Addr} {As rest : List Value} {g : JFrame}
    (S : CallFix p m c cc nL s args Ts own) (hM : Met l y ws rm Pc Qc mc ms free) (cw : vx_CVW R s args own C index y bytes maxL ret hh ws rm mc ms n) (hp : PreV s H C b Pc As)
    (hg : g.method = m) (hn : As.length = n) (hsize : g.locals.size = nL) (hstack : g.stack = As.reverse ++ .ref b :: rest) (hW : 2 * g.monitorRoom + (rest.map fun v => v.category).sum ≤ 8) (hdg : decode cc g.pc = .ok (.invokevirtual index, 3)) (hf : cells + mc ≤ R.cells ∧ slots + ms ≤ R.slots) :
    va_Run p l e R s m args below meth c H locs cells slots mc ms g rest (Qc (Value.ref b :: As).toArray) free := by
  obtain ⟨⟨hrc, hrs, hfr, hlo, hws, hcw⟩, hcode, hini, hy, hlen, hl, hin, hse⟩ := cw
  have hK : Back l R p e below s args y 3 8 (PreOf R mc ms Pc) (PostOf Qc mc ms free) := va_backW (hh := hh) (bytes := bytes) (maxL := maxL) (ret := ret) hM hp.1 hrc hrs hfr hlo hws hcw (fun a' U hW => word_at hW (Or.inl (by first | rfl | simp [Cond.onTables, Cond.keeps, Cond.steady])) hini)
  obtain ⟨hx, hb, hml, ho, -⟩ := S
  obtain ⟨-, ⟨cellB, hcB, hoB, hclB⟩, hPc⟩ := hp
  intro T hT X
  obtain ⟨v, vm₁, ⟨U', l2, c2, s2⟩, hW₁, X', ⟨g', mk, t, L, e1, e2, hq, h1, hL, h2, h3⟩, st⟩ := vx_callVW X hx (C := C) (hh := hh) (bytes := bytes) (maxL := maxL) (ret := ret) ho hl hin hse hcode hy hK (by rw [hT]; exact hcB) hoB hclB hg (hsize.trans hml.symm) (argsL := As) (rest := rest) (fun sig h => hn.trans (hlen sig h)) hstack hW (by rw [hb]; exact hdg)
    (fun vm₁ hW₁ => ⟨hf.1, hf.2, hPc (T.setVm vm₁) hT hW₁⟩)
  dsimp only [Pt.U, Pt.locs, Pt.cells, Pt.slots] at X' e1 e2 h1 h2 h3 st
  subst h1; subst h2; subst h3
  exact ⟨v, (T.setVm vm₁).calling g' mk (Value.ref b :: As).toArray, t, U', L, hT, X', hL, e1, e2, hq, st⟩
section
variable {y : MethodName} {bytes cc : ByteArray} {maxL nL mc ms n index : Nat} {ret : Option FieldType} {ws : List Cond} {rm : Room} {Pc : Array Value → State → Prop} {Qc : Array Value → State → Outcome → State → Prop} {XC : String → State → State → Prop} {free : Addr → Prop} {Ts : List Cond} {own C : String} {b : Addr} {As rest : List Value} {g : JFrame}
theorem vx_runVX {hh : List (Nat × Nat × Nat × Nat)} (S : CallFix p m c cc nL s args Ts own) (hM : vx_Met l y ws rm Pc Qc XC mc ms free) (cw : vx_CVW R s args own C index y bytes maxL ret hh ws rm mc ms n) (hp : PreV s H C b Pc As)
    (hg : g.method = m) (hn : As.length = n) (hsize : g.locals.size = nL) (hstack : g.stack = As.reverse ++ .ref b :: rest) (hW : 2 * g.monitorRoom + (rest.map fun v => v.category).sum ≤ 8) (hdg : decode cc g.pc = .ok (.invokevirtual index, 3)) (hf : cells + mc ≤ R.cells ∧ slots + ms ≤ R.slots) :
    vx_Run p l e R s m args below meth c H locs cells slots mc ms g rest (Qc (Value.ref b :: As).toArray) XC free := by
  obtain ⟨⟨hrc, hrs, hfr, hlo, hws, hcw⟩, hcode, hini, hy, hlen, hl, hin, hse⟩ := cw
  have hK : vx_Back l R p e below s args y 3 8 (PreOf R mc ms Pc) (PostOf Qc mc ms free) (vx_Post XC mc ms free) := vx_backW (hh := hh) (bytes := bytes) (maxL := maxL) (ret := ret) hM hp.1 hrc hrs hfr hlo hws hcw (fun a' U hW => word_at hW (Or.inl (by first | rfl | simp [Cond.onTables, Cond.keeps, Cond.steady])) hini)
  obtain ⟨hx, hb, hml, ho, -⟩ := S
  obtain ⟨-, ⟨cellB, hcB, hoB, hclB⟩, hPc⟩ := hp
  intro T hT X
  rcases vx_callVX X hx (C := C) (hh := hh) (bytes := bytes) (maxL := maxL) (ret := ret) ho hl hin hse hcode hy hK (by rw [hT]; exact hcB) hoB hclB hg (hsize.trans hml.symm) (argsL := As) (rest := rest) (fun sig h => hn.trans (hlen sig h)) hstack hW (by rw [hb]; exact hdg)
    (fun vm₁ hW₁ => ⟨hf.1, hf.2, hPc (T.setVm vm₁) hT hW₁⟩) with ⟨v, vm₁, ⟨U', l2, c2, s2⟩, hW₁, X', ⟨g', mk, t, L, e1, e2, hq, h1, hL, h2, h3⟩, st⟩ | ⟨q, vm₁, ⟨U', l2, c2, s2⟩, hW₁, X', ⟨g', mk, t, L, E, ce, e1, e2, hq, hce, hcv, hcl, h1, hL, h2, h3⟩, st⟩
  · dsimp only [Pt.U, Pt.locs, Pt.cells, Pt.slots] at X' e1 e2 h1 h2 h3 st
    subst h1; subst h2; subst h3
    exact Or.inl ⟨v, (T.setVm vm₁).calling g' mk (Value.ref b :: As).toArray, t, U', L, hT, X', hL, e1, e2, hq, st⟩
  · dsimp only [Pt.U, Pt.locs, Pt.cells, Pt.slots] at X' e1 e2 h1 h2 h3 st hcl
    subst h1; subst h2; subst h3
    exact Or.inr ⟨q, (T.setVm vm₁).calling g' mk (Value.ref b :: As).toArray, t, U', L, E, ce, hT, X', hL, e1, e2, hq, hce, hcv, vx_cls hW₁ hcl, st⟩
theorem vx_runSX {hh : List (Nat × Nat × Nat × Nat)} (S : CallFix p m c cc nL s args Ts own) (hM : vx_Met l y ws rm Pc Qc XC mc ms free) (cw : vx_CSW R s args own index y bytes maxL ret hh ws rm mc ms n) (hp : PreS s H Pc As)
    (hg : g.method = m) (hn : As.length = n) (hsize : g.locals.size = nL) (hstack : g.stack = As.reverse ++ rest) (hW : 2 * g.monitorRoom + (rest.map fun v => v.category).sum ≤ 8) (hdg : decode cc g.pc = .ok (.invokestatic index, 3)) (hf : cells + mc ≤ R.cells ∧ slots + ms ≤ R.slots) :
    vx_Run p l e R s m args below meth c H locs cells slots mc ms g rest (Qc As.toArray) XC free := by
  obtain ⟨⟨hrc, hrs, hfr, hlo, hws, hcw⟩, hcode, hini, hy, hlen, hl, hstt⟩ := cw
  have hK : vx_Back l R p e below s args y 3 8 (PreOf R mc ms Pc) (PostOf Qc mc ms free) (vx_Post XC mc ms free) := vx_backW (hh := hh) (bytes := bytes) (maxL := maxL) (ret := ret) hM hp.1 hrc hrs hfr hlo hws hcw (fun a' U hW => word_at hW (Or.inl (by first | rfl | simp [Cond.onTables, Cond.keeps, Cond.steady])) hini)
  obtain ⟨hx, hb, hml, ho, -⟩ := S
  intro T hT X
  rcases vx_callSX X hx (hh := hh) (bytes := bytes) (maxL := maxL) (ret := ret) ho hl hstt hini hcode hy hK hg (hsize.trans hml.symm) (argsL := As) (rest := rest) (fun sig h => hn.trans (hlen sig h)) hstack hW (by rw [hb]; exact hdg)
    (fun vm₁ hW₁ => ⟨hf.1, hf.2, hp.2 (T.setVm vm₁) hT hW₁⟩) with ⟨v, vm₁, ⟨U', l2, c2, s2⟩, hW₁, X', ⟨g', mk, t, L, e1, e2, hq, h1, hL, h2, h3⟩, st⟩ | ⟨q, vm₁, ⟨U', l2, c2, s2⟩, hW₁, X', ⟨g', mk, t, L, E, ce, e1, e2, hq, hce, hcv, hcl, h1, hL, h2, h3⟩, st⟩
  · dsimp only [Pt.U, Pt.locs, Pt.cells, Pt.slots] at X' e1 e2 h1 h2 h3 st
    subst h1; subst h2; subst h3
    exact Or.inl ⟨v, (T.setVm vm₁).calling g' mk As.toArray, t, U', L, hT, X', hL, e1, e2, hq, st⟩
  · dsimp only [Pt.U, Pt.locs, Pt.cells, Pt.slots] at X' e1 e2 h1 h2 h3 st hcl
    subst h1; subst h2; subst h3
    exact Or.inr ⟨q, (T.setVm vm₁).calling g' mk As.toArray, t, U', L, E, ce, hT, X', hL, e1, e2, hq, hce, hcv, vx_cls hW₁ hcl, st⟩
end
end VXH
theorem vx_ofWH {l : Launch} {y : MethodName} {ws ws' : List Cond} {rm : Room} {Pc : Array Value → State → Prop} {Qc : Array Value → State → Outcome → State → Prop} {XC : String → State → State → Prop} {mc ms : Nat} {free : Addr → Prop} {cc : ByteArray} {maxL : Nat} {ret : Option FieldType} {hh : List (Nat × Nat × Nat × Nat)}
    (hy : plainName y.cls = true) (hw : ws = Cond.codeWith y cc maxL ret hh :: ws')
    (body : ∀ p e s m args below meth c s₁, BodyLoose p l y (headSpec ws rm) cc maxL ret e s m args below meth c s₁ → c.maxLocals = maxL → Pc args s →
      W p l e (headSpec ws rm).room s m args below meth c s.heap [] 0 0 (vx_MQ below Qc XC args s mc ms free) (entryFrame m args maxL)) : vx_Met l y ws rm Pc Qc XC mc ms free := by
  refine MetFree.of_bodyS (code := cc) (maxLocals := maxL) (ret := ret) hy ?_ ?_
  · intro args s m h hn
    obtain ⟨m9, meth, c, hn9, h1, h2, h3, h4, -, h5, h6, -⟩ := Cond.codeWith_spec (atoms_spec (ws := ws) h _ (by rw [hw]; exact List.mem_cons_self))
    cases hn.symm.trans hn9
    exact ⟨meth, c, h1, h2, h3, h4, h5, h6⟩
  · intro p e s m args below meth c s₁ B hml hP _
    have hh0 : s₁.heap = s.heap := by rw [B.state]; rfl
    obtain ⟨t, a1, o, b1, b2, b3⟩ := body p e s m args below meth c s₁ B hml hP s₁ hh0 (Stand.of_body B)
    exact ⟨t, o, a1, b1, b2, b3⟩
/-! ===== END ===== -/
end
section
def R_N : String := "NameRules$Names"
def T_N : u_T := fun k => match k with
  | 0 => ("NameRules$Names", "texts", "[LNameRules$Text;", true)
  | _ => ("NameRules$Names", "size", "I", false)
def ty_N : Nat → FieldType := fun k => match k with
  | 0 => .array (.object "NameRules$Text")
  | _ => .int
theorem n_N : ∀ a, a < 2 → ∀ b, b < 2 → a ≠ b → (T_N a).2.1 ≠ (T_N b).2.1 := by decide +kernel
theorem t_N_ok : ∀ k, k < 2 → parseFieldDescriptor (T_N k).2.2.1 = some (ty_N k) := by decide +kernel
def R_R : String := "NameRules$Renames"
def T_R : u_T := fun k => match k with
  | 0 => ("NameRules$Renames", "olds", "[I", true)
  | 1 => ("NameRules$Renames", "news", "[I", true)
  | _ => ("NameRules$Renames", "size", "I", false)
def ty_R : Nat → FieldType := fun k => match k with
  | 0 => .array .int
  | 1 => .array .int
  | _ => .int
theorem n_R : ∀ a, a < 3 → ∀ b, b < 3 → a ≠ b → (T_R a).2.1 ≠ (T_R b).2.1 := by decide +kernel
theorem t_R_ok : ∀ k, k < 3 → parseFieldDescriptor (T_R k).2.2.1 = some (ty_R k) := by decide +kernel
def R_W : String := "NameRules$Rows"
def T_W : u_T := fun k => match k with
  | 0 => ("NameRules$Rows", "cells", "[I", true)
  | _ => ("NameRules$Rows", "size", "I", false)
def ty_W : Nat → FieldType := fun k => match k with
  | 0 => .array .int
  | _ => .int
theorem n_W : ∀ a, a < 2 → ∀ b, b < 2 → a ≠ b → (T_W a).2.1 ≠ (T_W b).2.1 := by decide +kernel
theorem t_W_ok : ∀ k, k < 2 → parseFieldDescriptor (T_W k).2.2.1 = some (ty_W k) := by decide +kernel
def R_H : String := "NameRules$Shorts"
def T_H : u_T := fun k => match k with
  | 0 => ("NameRules$Shorts", "names", "LNameRules$Names;", true)
  | 1 => ("NameRules$Shorts", "spaceOfShort", "[I", true)
  | 2 => ("NameRules$Shorts", "bestOfSpace", "[I", true)
  | 3 => ("NameRules$Shorts", "size", "I", false)
  | _ => ("NameRules$Shorts", "spaces", "I", false)
def ty_H : Nat → FieldType := fun k => match k with
  | 0 => .object "NameRules$Names"
  | 1 => .array .int
  | 2 => .array .int
  | 3 => .int
  | _ => .int
theorem n_H : ∀ a, a < 5 → ∀ b, b < 5 → a ≠ b → (T_H a).2.1 ≠ (T_H b).2.1 := by decide +kernel
theorem t_H_ok : ∀ k, k < 5 → parseFieldDescriptor (T_H k).2.2.1 = some (ty_H k) := by decide +kernel
def R_G : String := "NameRules$Standing"
def T_G : u_T := fun k => match k with
  | _ => ("NameRules$Standing", "standsFor", "[I", true)
def ty_G : Nat → FieldType := fun k => match k with
  | _ => .array .int
theorem n_G : ∀ a, a < 1 → ∀ b, b < 1 → a ≠ b → (T_G a).2.1 ≠ (T_G b).2.1 := by decide +kernel
theorem t_G_ok : ∀ k, k < 1 → parseFieldDescriptor (T_G k).2.2.1 = some (ty_G k) := by decide +kernel
def R_E : String := "NameRules$Steps"
def T_E : u_T := fun k => match k with
  | _ => ("NameRules$Steps", "held", "[I", true)
def ty_E : Nat → FieldType := fun k => match k with
  | _ => .array .int
theorem n_E : ∀ a, a < 1 → ∀ b, b < 1 → a ≠ b → (T_E a).2.1 ≠ (T_E b).2.1 := by decide +kernel
theorem t_E_ok : ∀ k, k < 1 → parseFieldDescriptor (T_E k).2.2.1 = some (ty_E k) := by decide +kernel
def R_T : String := "NameRules$Text"
def T_T : u_T := fun k => match k with
  | 0 => ("NameRules$Text", "characters", "[C", true)
  | _ => ("NameRules$Text", "length", "I", false)
def ty_T : Nat → FieldType := fun k => match k with
  | 0 => .array .char
  | _ => .int
theorem n_T : ∀ a, a < 2 → ∀ b, b < 2 → a ≠ b → (T_T a).2.1 ≠ (T_T b).2.1 := by decide +kernel
theorem t_T_ok : ∀ k, k < 2 → parseFieldDescriptor (T_T k).2.2.1 = some (ty_T k) := by decide +kernel
def R_C : String := "NameRules"
def T_C : u_T := fun k => match k with
  | 0 => ("NameRules", "tape", "LNameRules$Text;", true)
  | 1 => ("NameRules", "printed", "LNameRules$Text;", true)
  | 2 => ("NameRules", "built", "LNameRules$Text;", true)
  | 3 => ("NameRules", "names", "LNameRules$Names;", true)
  | 4 => ("NameRules", "shorts", "LNameRules$Shorts;", true)
  | 5 => ("NameRules", "rows", "LNameRules$Rows;", true)
  | 6 => ("NameRules", "standing", "LNameRules$Standing;", true)
  | 7 => ("NameRules", "renames", "LNameRules$Renames;", true)
  | 8 => ("NameRules", "steps", "LNameRules$Steps;", true)
  | 9 => ("NameRules", "uses", "[I", true)
  | 10 => ("NameRules", "termSpaces", "[Z", true)
  | 11 => ("NameRules", "distances", "[I", true)
  | 12 => ("NameRules", "clashKind", "I", false)
  | 13 => ("NameRules", "clashFirst", "I", false)
  | _ => ("NameRules", "clashSecond", "I", false)
def ty_C : Nat → FieldType := fun k => match k with
  | 0 => .object "NameRules$Text"
  | 1 => .object "NameRules$Text"
  | 2 => .object "NameRules$Text"
  | 3 => .object "NameRules$Names"
  | 4 => .object "NameRules$Shorts"
  | 5 => .object "NameRules$Rows"
  | 6 => .object "NameRules$Standing"
  | 7 => .object "NameRules$Renames"
  | 8 => .object "NameRules$Steps"
  | 9 => .array .int
  | 10 => .array .boolean
  | 11 => .array .int
  | 12 => .int
  | 13 => .int
  | _ => .int
theorem n_C : ∀ a, a < 15 → ∀ b, b < 15 → a ≠ b → (T_C a).2.1 ≠ (T_C b).2.1 := by decide +kernel
theorem t_C_ok : ∀ k, k < 15 → parseFieldDescriptor (T_C k).2.2.1 = some (ty_C k) := by decide +kernel
def R_M : String := "NameRulesModel"
def T_M : u_T := fun k => match k with
  | 0 => ("NameRulesModel", "thrown", "I", false)
  | 1 => ("NameRulesModel", "tape", "[B", true)
  | 2 => ("NameRulesModel", "taped", "I", false)
  | 3 => ("NameRulesModel", "names", "[B", true)
  | 4 => ("NameRulesModel", "sizes", "[I", true)
  | 5 => ("NameRulesModel", "many", "I", false)
  | 6 => ("NameRulesModel", "spaceOfShort", "[I", true)
  | 7 => ("NameRulesModel", "uses", "[I", true)
  | 8 => ("NameRulesModel", "stands", "[I", true)
  | 9 => ("NameRulesModel", "rows", "[I", true)
  | 10 => ("NameRulesModel", "rowCount", "I", false)
  | 11 => ("NameRulesModel", "renames", "[I", true)
  | 12 => ("NameRulesModel", "renameCount", "I", false)
  | 13 => ("NameRulesModel", "shown", "[B", true)
  | 14 => ("NameRulesModel", "shownCount", "I", false)
  | 15 => ("NameRulesModel", "clash", "[I", true)
  | 16 => ("NameRulesModel", "made", "[B", true)
  | 17 => ("NameRulesModel", "madeSize", "I", false)
  | _ => ("NameRulesModel", "steps", "[I", true)
def ty_M : Nat → FieldType := fun k => match k with
  | 0 => .int
  | 1 => .array .byte
  | 2 => .int
  | 3 => .array .byte
  | 4 => .array .int
  | 5 => .int
  | 6 => .array .int
  | 7 => .array .int
  | 8 => .array .int
  | 9 => .array .int
  | 10 => .int
  | 11 => .array .int
  | 12 => .int
  | 13 => .array .byte
  | 14 => .int
  | 15 => .array .int
  | 16 => .array .byte
  | 17 => .int
  | _ => .array .int
theorem n_M : ∀ a, a < 19 → ∀ b, b < 19 → a ≠ b → (T_M a).2.1 ≠ (T_M b).2.1 := by decide +kernel
theorem t_M_ok : ∀ k, k < 19 → parseFieldDescriptor (T_M k).2.2.1 = some (ty_M k) := by decide +kernel
def R_L : String := "NameRulesLaw"
abbrev clsA : List vw_C := [(R_N, T_N, 2), (R_R, T_R, 3), (R_W, T_W, 2), (R_H, T_H, 5), (R_G, T_G, 1), (R_E, T_E, 1), (R_T, T_T, 2), (R_C, T_C, 15), (R_M, T_M, 19)]
abbrev b_C_init : ByteArray := prog_1_method_1_code
def y_C_init : MethodName := ⟨R_C, "<init>", "()V"⟩
abbrev b_C_type : ByteArray := prog_1_method_2_code
def y_C_type : MethodName := ⟨R_C, "type", "(I)I"⟩
abbrev b_C_clear : ByteArray := prog_1_method_3_code
def y_C_clear : MethodName := ⟨R_C, "clear", "()I"⟩
abbrev b_C_name : ByteArray := prog_1_method_4_code
def y_C_name : MethodName := ⟨R_C, "name", "()I"⟩
abbrev b_C_expand : ByteArray := prog_1_method_5_code
def y_C_expand : MethodName := ⟨R_C, "expand", "()I"⟩
abbrev b_C_prefix : ByteArray := prog_1_method_6_code
def y_C_prefix : MethodName := ⟨R_C, "prefix", "(II)Z"⟩
abbrev b_C_space : ByteArray := prog_1_method_7_code
def y_C_space : MethodName := ⟨R_C, "space", "(I)I"⟩
abbrev b_C_best : ByteArray := prog_1_method_8_code
def y_C_best : MethodName := ⟨R_C, "best", "(I)I"⟩
abbrev b_C_propose : ByteArray := prog_1_method_9_code
def y_C_propose : MethodName := ⟨R_C, "propose", "(I)I"⟩
abbrev b_C_print : ByteArray := prog_1_method_10_code
def y_C_print : MethodName := ⟨R_C, "print", "(I)I"⟩
abbrev b_C_letter : ByteArray := prog_1_method_11_code
def y_C_letter : MethodName := ⟨R_C, "letter", "(I)C"⟩
abbrev b_C_row : ByteArray := prog_1_method_12_code
def y_C_row : MethodName := ⟨R_C, "row", "(III)I"⟩
abbrev b_C_told : ByteArray := prog_1_method_13_code
def y_C_told : MethodName := ⟨R_C, "told", "(II)I"⟩
abbrev b_C_document : ByteArray := prog_1_method_14_code
def y_C_document : MethodName := ⟨R_C, "document", "(II)I"⟩
abbrev b_C_use : ByteArray := prog_1_method_15_code
def y_C_use : MethodName := ⟨R_C, "use", "(I)I"⟩
abbrev b_C_used : ByteArray := prog_1_method_16_code
def y_C_used : MethodName := ⟨R_C, "used", "(I)I"⟩
abbrev b_C_unknown : ByteArray := prog_1_method_17_code
def y_C_unknown : MethodName := ⟨R_C, "unknown", "(I)I"⟩
abbrev b_C_apart : ByteArray := prog_1_method_18_code
def y_C_apart : MethodName := ⟨R_C, "apart", "(II)I"⟩
abbrev b_C_near : ByteArray := prog_1_method_19_code
def y_C_near : MethodName := ⟨R_C, "near", "(II)I"⟩
abbrev b_C_alias : ByteArray := prog_1_method_20_code
def y_C_alias : MethodName := ⟨R_C, "alias", "(II)Z"⟩
abbrev b_C_meaning : ByteArray := prog_1_method_21_code
def y_C_meaning : MethodName := ⟨R_C, "meaning", "(I)I"⟩
abbrev b_C_join : ByteArray := prog_1_method_22_code
def y_C_join : MethodName := ⟨R_C, "join", "(III)I"⟩
abbrev b_C_rename : ByteArray := prog_1_method_23_code
def y_C_rename : MethodName := ⟨R_C, "rename", "(II)I"⟩
abbrev b_C_now : ByteArray := prog_1_method_24_code
def y_C_now : MethodName := ⟨R_C, "now", "(I)I"⟩
abbrev b_C_was : ByteArray := prog_1_method_25_code
def y_C_was : MethodName := ⟨R_C, "was", "(I)I"⟩
abbrev b_C_clash : ByteArray := prog_1_method_26_code
def y_C_clash : MethodName := ⟨R_C, "clash", "(I)I"⟩
abbrev b_C_count : ByteArray := prog_1_method_27_code
def y_C_count : MethodName := ⟨R_C, "count", "(I)I"⟩
abbrev b_C_requireName : ByteArray := prog_1_method_28_code
def y_C_requireName : MethodName := ⟨R_C, "requireName", "(I)V"⟩
abbrev b_C_requirePlace : ByteArray := prog_1_method_29_code
def y_C_requirePlace : MethodName := ⟨R_C, "requirePlace", "(I)V"⟩
abbrev b_C_requireTape : ByteArray := prog_1_method_30_code
def y_C_requireTape : MethodName := ⟨R_C, "requireTape", "()V"⟩
abbrev b_C_keepClash : ByteArray := prog_1_method_31_code
def y_C_keepClash : MethodName := ⟨R_C, "keepClash", "(III)V"⟩
abbrev b_C_numberOf : ByteArray := prog_1_method_32_code
def y_C_numberOf : MethodName := ⟨R_C, "numberOf", "(LNameRules$Text;)I"⟩
abbrev b_C_buildFromTape : ByteArray := prog_1_method_33_code
def y_C_buildFromTape : MethodName := ⟨R_C, "buildFromTape", "()V"⟩
abbrev b_C_spaceOnTapeBefore : ByteArray := prog_1_method_34_code
def y_C_spaceOnTapeBefore : MethodName := ⟨R_C, "spaceOnTapeBefore", "(I)I"⟩
abbrev b_C_buildLastLetters : ByteArray := prog_1_method_35_code
def y_C_buildLastLetters : MethodName := ⟨R_C, "buildLastLetters", "(LNameRules$Text;)V"⟩
abbrev b_C_isSmallLetter : ByteArray := prog_1_method_36_code
def y_C_isSmallLetter : MethodName := ⟨R_C, "isSmallLetter", "(C)Z"⟩
abbrev b_C_isGreatLetter : ByteArray := prog_1_method_37_code
def y_C_isGreatLetter : MethodName := ⟨R_C, "isGreatLetter", "(C)Z"⟩
abbrev b_C_isLetter : ByteArray := prog_1_method_38_code
def y_C_isLetter : MethodName := ⟨R_C, "isLetter", "(C)Z"⟩
abbrev b_C_isDigit : ByteArray := prog_1_method_39_code
def y_C_isDigit : MethodName := ⟨R_C, "isDigit", "(C)Z"⟩
abbrev b_C_small : ByteArray := prog_1_method_40_code
def y_C_small : MethodName := ⟨R_C, "small", "(C)C"⟩
abbrev b_C_buildBesides : ByteArray := prog_1_method_41_code
def y_C_buildBesides : MethodName := ⟨R_C, "buildBesides", "(LNameRules$Text;LNameRules$Text;)V"⟩
abbrev b_C_buildWithin : ByteArray := prog_1_method_42_code
def y_C_buildWithin : MethodName := ⟨R_C, "buildWithin", "(LNameRules$Text;LNameRules$Text;)V"⟩
abbrev b_C_termText : ByteArray := prog_1_method_43_code
def y_C_termText : MethodName := ⟨R_C, "termText", "(I)LNameRules$Text;"⟩
abbrev b_C_spaceOfTerm : ByteArray := prog_1_method_44_code
def y_C_spaceOfTerm : MethodName := ⟨R_C, "spaceOfTerm", "(I)I"⟩
abbrev b_C_isInSpace : ByteArray := prog_1_method_45_code
def y_C_isInSpace : MethodName := ⟨R_C, "isInSpace", "(II)Z"⟩
abbrev b_C_rowsBefore : ByteArray := prog_1_method_46_code
def y_C_rowsBefore : MethodName := ⟨R_C, "rowsBefore", "(II)I"⟩
abbrev b_C_markTermSpaces : ByteArray := prog_1_method_47_code
def y_C_markTermSpaces : MethodName := ⟨R_C, "markTermSpaces", "()V"⟩
abbrev b_C_isUnknown : ByteArray := prog_1_method_48_code
def y_C_isUnknown : MethodName := ⟨R_C, "isUnknown", "(I)Z"⟩
abbrev b_C_unknownNames : ByteArray := prog_1_method_49_code
def y_C_unknownNames : MethodName := ⟨R_C, "unknownNames", "()I"⟩
abbrev b_C_measureTerms : ByteArray := prog_1_method_50_code
def y_C_measureTerms : MethodName := ⟨R_C, "measureTerms", "(I)V"⟩
abbrev b_C_rowsNearer : ByteArray := prog_1_method_51_code
def y_C_rowsNearer : MethodName := ⟨R_C, "rowsNearer", "(I)I"⟩
abbrev b_C_renameClashes : ByteArray := prog_1_method_52_code
def y_C_renameClashes : MethodName := ⟨R_C, "renameClashes", "(II)Z"⟩
abbrev b_C_moveUses : ByteArray := prog_1_method_53_code
def y_C_moveUses : MethodName := ⟨R_C, "moveUses", "(II)I"⟩
abbrev b_M_init : ByteArray := prog_10_method_1_code
def y_M_init : MethodName := ⟨R_M, "<init>", "()V"⟩
abbrev b_M_thrown : ByteArray := prog_10_method_2_code
def y_M_thrown : MethodName := ⟨R_M, "thrown", "()I"⟩
abbrev b_M_refuses : ByteArray := prog_10_method_3_code
def y_M_refuses : MethodName := ⟨R_M, "refuses", "(I)Z"⟩
abbrev b_M_no : ByteArray := prog_10_method_4_code
def y_M_no : MethodName := ⟨R_M, "no", "(I)Z"⟩
abbrev b_M_clashes : ByteArray := prog_10_method_5_code
def y_M_clashes : MethodName := ⟨R_M, "clashes", "(III)V"⟩
abbrev b_M_at : ByteArray := prog_10_method_6_code
def y_M_at : MethodName := ⟨R_M, "at", "(II)I"⟩
abbrev b_M_type : ByteArray := prog_10_method_7_code
def y_M_type : MethodName := ⟨R_M, "type", "(I)I"⟩
abbrev b_M_clear : ByteArray := prog_10_method_8_code
def y_M_clear : MethodName := ⟨R_M, "clear", "()I"⟩
abbrev b_M_begin : ByteArray := prog_10_method_9_code
def y_M_begin : MethodName := ⟨R_M, "begin", "()V"⟩
abbrev b_M_makes : ByteArray := prog_10_method_10_code
def y_M_makes : MethodName := ⟨R_M, "makes", "(I)V"⟩
abbrev b_M_found : ByteArray := prog_10_method_11_code
def y_M_found : MethodName := ⟨R_M, "found", "()I"⟩
abbrev b_M_comes : ByteArray := prog_10_method_12_code
def y_M_comes : MethodName := ⟨R_M, "comes", "()I"⟩
abbrev b_M_isTooMuch : ByteArray := prog_10_method_13_code
def y_M_isTooMuch : MethodName := ⟨R_M, "isTooMuch", "()Z"⟩
abbrev b_M_name : ByteArray := prog_10_method_14_code
def y_M_name : MethodName := ⟨R_M, "name", "()I"⟩
abbrev b_M_told0 : ByteArray := prog_10_method_15_code
def y_M_told0 : MethodName := ⟨R_M, "told", "()Z"⟩
abbrev b_M_expand : ByteArray := prog_10_method_16_code
def y_M_expand : MethodName := ⟨R_M, "expand", "()I"⟩
abbrev b_M_canBeShort : ByteArray := prog_10_method_17_code
def y_M_canBeShort : MethodName := ⟨R_M, "canBeShort", "(I)Z"⟩
abbrev b_M_prefix : ByteArray := prog_10_method_18_code
def y_M_prefix : MethodName := ⟨R_M, "prefix", "(II)Z"⟩
abbrev b_M_isSpace : ByteArray := prog_10_method_19_code
def y_M_isSpace : MethodName := ⟨R_M, "isSpace", "(I)Z"⟩
abbrev b_M_goesOn : ByteArray := prog_10_method_20_code
def y_M_goesOn : MethodName := ⟨R_M, "goesOn", "(II)Z"⟩
abbrev b_M_spaceOf : ByteArray := prog_10_method_21_code
def y_M_spaceOf : MethodName := ⟨R_M, "spaceOf", "(I)I"⟩
abbrev b_M_space : ByteArray := prog_10_method_22_code
def y_M_space : MethodName := ⟨R_M, "space", "(I)I"⟩
abbrev b_M_isBefore : ByteArray := prog_10_method_23_code
def y_M_isBefore : MethodName := ⟨R_M, "isBefore", "(II)Z"⟩
abbrev b_M_bestOf : ByteArray := prog_10_method_24_code
def y_M_bestOf : MethodName := ⟨R_M, "bestOf", "(I)I"⟩
abbrev b_M_best : ByteArray := prog_10_method_25_code
def y_M_best : MethodName := ⟨R_M, "best", "(I)I"⟩
abbrev b_M_isLetter : ByteArray := prog_10_method_26_code
def y_M_isLetter : MethodName := ⟨R_M, "isLetter", "(I)Z"⟩
abbrev b_M_isTaken : ByteArray := prog_10_method_27_code
def y_M_isTaken : MethodName := ⟨R_M, "isTaken", "()Z"⟩
abbrev b_M_propose : ByteArray := prog_10_method_28_code
def y_M_propose : MethodName := ⟨R_M, "propose", "(I)I"⟩
abbrev b_M_print : ByteArray := prog_10_method_29_code
def y_M_print : MethodName := ⟨R_M, "print", "(I)I"⟩
abbrev b_M_letter : ByteArray := prog_10_method_30_code
def y_M_letter : MethodName := ⟨R_M, "letter", "(I)C"⟩
abbrev b_M_rowOf : ByteArray := prog_10_method_31_code
def y_M_rowOf : MethodName := ⟨R_M, "rowOf", "(I)I"⟩
abbrev b_M_row : ByteArray := prog_10_method_32_code
def y_M_row : MethodName := ⟨R_M, "row", "(III)I"⟩
abbrev b_M_told2 : ByteArray := prog_10_method_33_code
def y_M_told2 : MethodName := ⟨R_M, "told", "(II)I"⟩
abbrev b_M_document : ByteArray := prog_10_method_34_code
def y_M_document : MethodName := ⟨R_M, "document", "(II)I"⟩
abbrev b_M_use : ByteArray := prog_10_method_35_code
def y_M_use : MethodName := ⟨R_M, "use", "(I)I"⟩
abbrev b_M_used : ByteArray := prog_10_method_36_code
def y_M_used : MethodName := ⟨R_M, "used", "(I)I"⟩
abbrev b_M_isUnknown : ByteArray := prog_10_method_37_code
def y_M_isUnknown : MethodName := ⟨R_M, "isUnknown", "(I)Z"⟩
abbrev b_M_unknown : ByteArray := prog_10_method_38_code
def y_M_unknown : MethodName := ⟨R_M, "unknown", "(I)I"⟩
abbrev b_M_distance : ByteArray := prog_10_method_39_code
def y_M_distance : MethodName := ⟨R_M, "distance", "(II)I"⟩
abbrev b_M_apart : ByteArray := prog_10_method_40_code
def y_M_apart : MethodName := ⟨R_M, "apart", "(II)I"⟩
abbrev b_M_near : ByteArray := prog_10_method_41_code
def y_M_near : MethodName := ⟨R_M, "near", "(II)I"⟩
abbrev b_M_comesTo : ByteArray := prog_10_method_42_code
def y_M_comesTo : MethodName := ⟨R_M, "comesTo", "(II)Z"⟩
abbrev b_M_alias : ByteArray := prog_10_method_43_code
def y_M_alias : MethodName := ⟨R_M, "alias", "(II)Z"⟩
abbrev b_M_meaning : ByteArray := prog_10_method_44_code
def y_M_meaning : MethodName := ⟨R_M, "meaning", "(I)I"⟩
abbrev b_M_join : ByteArray := prog_10_method_45_code
def y_M_join : MethodName := ⟨R_M, "join", "(III)I"⟩
abbrev b_M_canNotRename : ByteArray := prog_10_method_46_code
def y_M_canNotRename : MethodName := ⟨R_M, "canNotRename", "(II)Z"⟩
abbrev b_M_rename : ByteArray := prog_10_method_47_code
def y_M_rename : MethodName := ⟨R_M, "rename", "(II)I"⟩
abbrev b_M_now : ByteArray := prog_10_method_48_code
def y_M_now : MethodName := ⟨R_M, "now", "(I)I"⟩
abbrev b_M_was : ByteArray := prog_10_method_49_code
def y_M_was : MethodName := ⟨R_M, "was", "(I)I"⟩
abbrev b_M_clash : ByteArray := prog_10_method_50_code
def y_M_clash : MethodName := ⟨R_M, "clash", "(I)I"⟩
abbrev b_M_count : ByteArray := prog_10_method_51_code
def y_M_count : MethodName := ⟨R_M, "count", "(I)I"⟩
abbrev b_N_init : ByteArray := prog_2_method_1_code
def y_N_init : MethodName := ⟨R_N, "<init>", "()V"⟩
abbrev b_N_size : ByteArray := prog_2_method_2_code
def y_N_size : MethodName := ⟨R_N, "size", "()I"⟩
abbrev b_N_has : ByteArray := prog_2_method_3_code
def y_N_has : MethodName := ⟨R_N, "has", "(I)Z"⟩
abbrev b_N_isFull : ByteArray := prog_2_method_4_code
def y_N_isFull : MethodName := ⟨R_N, "isFull", "()Z"⟩
abbrev b_N_text : ByteArray := prog_2_method_5_code
def y_N_text : MethodName := ⟨R_N, "text", "(I)LNameRules$Text;"⟩
abbrev b_N_find : ByteArray := prog_2_method_6_code
def y_N_find : MethodName := ⟨R_N, "find", "(LNameRules$Text;)I"⟩
abbrev b_N_add : ByteArray := prog_2_method_7_code
def y_N_add : MethodName := ⟨R_N, "add", "(LNameRules$Text;)I"⟩
abbrev b_R_init : ByteArray := prog_3_method_1_code
def y_R_init : MethodName := ⟨R_R, "<init>", "()V"⟩
abbrev b_R_size : ByteArray := prog_3_method_2_code
def y_R_size : MethodName := ⟨R_R, "size", "()I"⟩
abbrev b_R_isFull : ByteArray := prog_3_method_3_code
def y_R_isFull : MethodName := ⟨R_R, "isFull", "()Z"⟩
abbrev b_R_add : ByteArray := prog_3_method_4_code
def y_R_add : MethodName := ⟨R_R, "add", "(II)V"⟩
abbrev b_R_forward : ByteArray := prog_3_method_5_code
def y_R_forward : MethodName := ⟨R_R, "forward", "(I)I"⟩
abbrev b_R_back : ByteArray := prog_3_method_6_code
def y_R_back : MethodName := ⟨R_R, "back", "(I)I"⟩
abbrev b_W_init : ByteArray := prog_4_method_1_code
def y_W_init : MethodName := ⟨R_W, "<init>", "()V"⟩
abbrev b_W_size : ByteArray := prog_4_method_2_code
def y_W_size : MethodName := ⟨R_W, "size", "()I"⟩
abbrev b_W_has : ByteArray := prog_4_method_3_code
def y_W_has : MethodName := ⟨R_W, "has", "(I)Z"⟩
abbrev b_W_isFull : ByteArray := prog_4_method_4_code
def y_W_isFull : MethodName := ⟨R_W, "isFull", "()Z"⟩
abbrev b_W_cell : ByteArray := prog_4_method_5_code
def y_W_cell : MethodName := ⟨R_W, "cell", "(II)I"⟩
abbrev b_W_rowOfTerm : ByteArray := prog_4_method_6_code
def y_W_rowOfTerm : MethodName := ⟨R_W, "rowOfTerm", "(I)I"⟩
abbrev b_W_add : ByteArray := prog_4_method_7_code
def y_W_add : MethodName := ⟨R_W, "add", "(III)I"⟩
abbrev b_W_replace : ByteArray := prog_4_method_8_code
def y_W_replace : MethodName := ⟨R_W, "replace", "(II)I"⟩
abbrev b_H_init : ByteArray := prog_5_method_1_code
def y_H_init : MethodName := ⟨R_H, "<init>", "(LNameRules$Names;)V"⟩
abbrev b_H_size : ByteArray := prog_5_method_2_code
def y_H_size : MethodName := ⟨R_H, "size", "()I"⟩
abbrev b_H_spaces : ByteArray := prog_5_method_3_code
def y_H_spaces : MethodName := ⟨R_H, "spaces", "()I"⟩
abbrev b_H_spaceOfShort : ByteArray := prog_5_method_4_code
def y_H_spaceOfShort : MethodName := ⟨R_H, "spaceOfShort", "(I)I"⟩
abbrev b_H_bestOfSpace : ByteArray := prog_5_method_5_code
def y_H_bestOfSpace : MethodName := ⟨R_H, "bestOfSpace", "(I)I"⟩
abbrev b_H_isShort : ByteArray := prog_5_method_6_code
def y_H_isShort : MethodName := ⟨R_H, "isShort", "(LNameRules$Text;)Z"⟩
abbrev b_H_add : ByteArray := prog_5_method_7_code
def y_H_add : MethodName := ⟨R_H, "add", "(II)V"⟩
abbrev b_H_spaceOfName : ByteArray := prog_5_method_8_code
def y_H_spaceOfName : MethodName := ⟨R_H, "spaceOfName", "(I)I"⟩
abbrev b_G_init : ByteArray := prog_6_method_1_code
def y_G_init : MethodName := ⟨R_G, "<init>", "()V"⟩
abbrev b_G_next : ByteArray := prog_6_method_2_code
def y_G_next : MethodName := ⟨R_G, "next", "(I)I"⟩
abbrev b_G_set : ByteArray := prog_6_method_3_code
def y_G_set : MethodName := ⟨R_G, "set", "(II)V"⟩
abbrev b_G_end : ByteArray := prog_6_method_4_code
def y_G_end : MethodName := ⟨R_G, "end", "(I)I"⟩
abbrev b_G_leads : ByteArray := prog_6_method_5_code
def y_G_leads : MethodName := ⟨R_G, "leads", "(II)Z"⟩
abbrev b_G_replace : ByteArray := prog_6_method_6_code
def y_G_replace : MethodName := ⟨R_G, "replace", "(II)I"⟩
abbrev b_E_init : ByteArray := prog_7_method_1_code
def y_E_init : MethodName := ⟨R_E, "<init>", "()V"⟩
abbrev b_E_between : ByteArray := prog_7_method_2_code
def y_E_between : MethodName := ⟨R_E, "between", "(LNameRules$Text;LNameRules$Text;)I"⟩
abbrev b_T_init : ByteArray := prog_8_method_1_code
def y_T_init : MethodName := ⟨R_T, "<init>", "(I)V"⟩
abbrev b_T_length : ByteArray := prog_8_method_2_code
def y_T_length : MethodName := ⟨R_T, "length", "()I"⟩
abbrev b_T_isEmpty : ByteArray := prog_8_method_3_code
def y_T_isEmpty : MethodName := ⟨R_T, "isEmpty", "()Z"⟩
abbrev b_T_isFull : ByteArray := prog_8_method_4_code
def y_T_isFull : MethodName := ⟨R_T, "isFull", "()Z"⟩
abbrev b_T_at : ByteArray := prog_8_method_5_code
def y_T_at : MethodName := ⟨R_T, "at", "(I)C"⟩
abbrev b_T_empty : ByteArray := prog_8_method_6_code
def y_T_empty : MethodName := ⟨R_T, "empty", "()V"⟩
abbrev b_T_put : ByteArray := prog_8_method_7_code
def y_T_put : MethodName := ⟨R_T, "put", "(C)V"⟩
abbrev b_T_putPart : ByteArray := prog_8_method_8_code
def y_T_putPart : MethodName := ⟨R_T, "putPart", "(LNameRules$Text;II)V"⟩
abbrev b_T_putAll : ByteArray := prog_8_method_9_code
def y_T_putAll : MethodName := ⟨R_T, "putAll", "(LNameRules$Text;)V"⟩
abbrev b_T_putNumber : ByteArray := prog_8_method_10_code
def y_T_putNumber : MethodName := ⟨R_T, "putNumber", "(I)V"⟩
abbrev b_T_firstPlaceOf : ByteArray := prog_8_method_11_code
def y_T_firstPlaceOf : MethodName := ⟨R_T, "firstPlaceOf", "(C)I"⟩
abbrev b_T_lastPlaceOf : ByteArray := prog_8_method_12_code
def y_T_lastPlaceOf : MethodName := ⟨R_T, "lastPlaceOf", "(C)I"⟩
abbrev b_T_compareWith : ByteArray := prog_8_method_13_code
def y_T_compareWith : MethodName := ⟨R_T, "compareWith", "(LNameRules$Text;)I"⟩
abbrev b_T_goesOnBehind : ByteArray := prog_8_method_14_code
def y_T_goesOnBehind : MethodName := ⟨R_T, "goesOnBehind", "(LNameRules$Text;)Z"⟩
abbrev b_T_canBeShort : ByteArray := prog_8_method_15_code
def y_T_canBeShort : MethodName := ⟨R_T, "canBeShort", "()Z"⟩
abbrev b_T_isBetterShortThan : ByteArray := prog_8_method_16_code
def y_T_isBetterShortThan : MethodName := ⟨R_T, "isBetterShortThan", "(LNameRules$Text;)Z"⟩
abbrev b_L_type : ByteArray := method_3_code
def y_L_type : MethodName := ⟨R_L, "type", "(LNameRules;I[J)I"⟩
abbrev b_L_name : ByteArray := method_4_code
def y_L_name : MethodName := ⟨R_L, "name", "(LNameRules;[J)I"⟩
abbrev b_L_expand : ByteArray := method_5_code
def y_L_expand : MethodName := ⟨R_L, "expand", "(LNameRules;[J)I"⟩
abbrev b_L_prefix : ByteArray := method_6_code
def y_L_prefix : MethodName := ⟨R_L, "prefix", "(LNameRules;II[J)I"⟩
abbrev b_L_space : ByteArray := method_7_code
def y_L_space : MethodName := ⟨R_L, "space", "(LNameRules;I[J)I"⟩
abbrev b_L_best : ByteArray := method_8_code
def y_L_best : MethodName := ⟨R_L, "best", "(LNameRules;I[J)I"⟩
abbrev b_L_propose : ByteArray := method_9_code
def y_L_propose : MethodName := ⟨R_L, "propose", "(LNameRules;I[J)I"⟩
abbrev b_L_print : ByteArray := method_10_code
def y_L_print : MethodName := ⟨R_L, "print", "(LNameRules;I[J)I"⟩
abbrev b_L_row : ByteArray := method_11_code
def y_L_row : MethodName := ⟨R_L, "row", "(LNameRules;III[J)I"⟩
abbrev b_L_told : ByteArray := method_12_code
def y_L_told : MethodName := ⟨R_L, "told", "(LNameRules;II[J)I"⟩
abbrev b_L_document : ByteArray := method_13_code
def y_L_document : MethodName := ⟨R_L, "document", "(LNameRules;II[J)I"⟩
abbrev b_L_use : ByteArray := method_14_code
def y_L_use : MethodName := ⟨R_L, "use", "(LNameRules;I[J)I"⟩
abbrev b_L_used : ByteArray := method_15_code
def y_L_used : MethodName := ⟨R_L, "used", "(LNameRules;I[J)I"⟩
abbrev b_L_unknown : ByteArray := method_16_code
def y_L_unknown : MethodName := ⟨R_L, "unknown", "(LNameRules;I[J)I"⟩
abbrev b_L_apart : ByteArray := method_17_code
def y_L_apart : MethodName := ⟨R_L, "apart", "(LNameRules;II[J)I"⟩
abbrev b_L_near : ByteArray := method_18_code
def y_L_near : MethodName := ⟨R_L, "near", "(LNameRules;II[J)I"⟩
abbrev b_L_alias : ByteArray := method_19_code
def y_L_alias : MethodName := ⟨R_L, "alias", "(LNameRules;II[J)I"⟩
abbrev b_L_meaning : ByteArray := method_20_code
def y_L_meaning : MethodName := ⟨R_L, "meaning", "(LNameRules;I[J)I"⟩
abbrev b_L_join : ByteArray := method_21_code
def y_L_join : MethodName := ⟨R_L, "join", "(LNameRules;III[J)I"⟩
abbrev b_L_rename : ByteArray := method_22_code
def y_L_rename : MethodName := ⟨R_L, "rename", "(LNameRules;II[J)I"⟩
abbrev b_L_now : ByteArray := method_23_code
def y_L_now : MethodName := ⟨R_L, "now", "(LNameRules;I[J)I"⟩
abbrev b_L_was : ByteArray := method_24_code
def y_L_was : MethodName := ⟨R_L, "was", "(LNameRules;I[J)I"⟩
abbrev b_L_clash : ByteArray := method_25_code
def y_L_clash : MethodName := ⟨R_L, "clash", "(LNameRules;I[J)I"⟩
abbrev b_L_count : ByteArray := method_26_code
def y_L_count : MethodName := ⟨R_L, "count", "(LNameRules;I[J)I"⟩
abbrev b_L_law : ByteArray := code
def y_L_law : MethodName := ⟨R_L, "law", "([I)Z"⟩
def GW : List Cond := lw_tbl.filter goodWord
theorem gw_m {w : Cond} (i : Nat) (h : lw_tbl[i]? = some w) (hg : goodWord w = true) : w ∈ GW := List.mem_filter.mpr ⟨List.mem_of_getElem? h, hg⟩
theorem gw_s {ws : List Cond} (h : ∀ w ∈ ws, w ∈ lw_tbl) (hg : ws.all goodWord = true) : ∀ w ∈ ws, w ∈ GW := fun w hw => List.mem_filter.mpr ⟨h w hw, List.all_eq_true.mp hg w hw⟩
theorem i_N : ∀ w ∈ u_ws R_N T_N 2, w ∈ GW := gw_s (by decide +kernel) (by decide +kernel)
theorem i_R : ∀ w ∈ u_ws R_R T_R 3, w ∈ GW := gw_s (by decide +kernel) (by decide +kernel)
theorem i_W : ∀ w ∈ u_ws R_W T_W 2, w ∈ GW := gw_s (by decide +kernel) (by decide +kernel)
theorem i_H : ∀ w ∈ u_ws R_H T_H 5, w ∈ GW := gw_s (by decide +kernel) (by decide +kernel)
theorem i_G : ∀ w ∈ u_ws R_G T_G 1, w ∈ GW := gw_s (by decide +kernel) (by decide +kernel)
theorem i_E : ∀ w ∈ u_ws R_E T_E 1, w ∈ GW := gw_s (by decide +kernel) (by decide +kernel)
theorem i_T : ∀ w ∈ u_ws R_T T_T 2, w ∈ GW := gw_s (by decide +kernel) (by decide +kernel)
theorem i_C : ∀ w ∈ u_ws R_C T_C 15, w ∈ GW := gw_s (by decide +kernel) (by decide +kernel)
theorem i_M : ∀ w ∈ u_ws R_M T_M 19, w ∈ GW := gw_s (by decide +kernel) (by decide +kernel)
theorem k_p1 : Cond.selects R_C y_C_requireTape y_C_requireTape ∈ GW := gw_m 1 (by decide +kernel) (by decide +kernel)
theorem k_p2 : Cond.selects R_C y_C_numberOf y_C_numberOf ∈ GW := gw_m 2 (by decide +kernel) (by decide +kernel)
theorem k_p3 : Cond.selects R_C y_C_buildFromTape y_C_buildFromTape ∈ GW := gw_m 3 (by decide +kernel) (by decide +kernel)
theorem k_p4 : Cond.selects R_C y_C_spaceOnTapeBefore y_C_spaceOnTapeBefore ∈ GW := gw_m 4 (by decide +kernel) (by decide +kernel)
theorem k_p5 : Cond.selects R_C y_C_requireName y_C_requireName ∈ GW := gw_m 5 (by decide +kernel) (by decide +kernel)
theorem k_p6 : Cond.selects R_C y_C_keepClash y_C_keepClash ∈ GW := gw_m 6 (by decide +kernel) (by decide +kernel)
theorem k_p7 : Cond.selects R_C y_C_buildLastLetters y_C_buildLastLetters ∈ GW := gw_m 7 (by decide +kernel) (by decide +kernel)
theorem k_p8 : Cond.selects R_C y_C_requirePlace y_C_requirePlace ∈ GW := gw_m 8 (by decide +kernel) (by decide +kernel)
theorem k_p9 : Cond.selects R_C y_C_isInSpace y_C_isInSpace ∈ GW := gw_m 9 (by decide +kernel) (by decide +kernel)
theorem k_p10 : Cond.selects R_C y_C_spaceOfTerm y_C_spaceOfTerm ∈ GW := gw_m 10 (by decide +kernel) (by decide +kernel)
theorem k_p11 : Cond.selects R_C y_C_rowsBefore y_C_rowsBefore ∈ GW := gw_m 11 (by decide +kernel) (by decide +kernel)
theorem k_p12 : Cond.selects R_C y_C_termText y_C_termText ∈ GW := gw_m 12 (by decide +kernel) (by decide +kernel)
theorem k_p13 : Cond.selects R_C y_C_markTermSpaces y_C_markTermSpaces ∈ GW := gw_m 13 (by decide +kernel) (by decide +kernel)
theorem k_p14 : Cond.selects R_C y_C_isUnknown y_C_isUnknown ∈ GW := gw_m 14 (by decide +kernel) (by decide +kernel)
theorem k_p15 : Cond.selects R_C y_C_measureTerms y_C_measureTerms ∈ GW := gw_m 15 (by decide +kernel) (by decide +kernel)
theorem k_p16 : Cond.selects R_C y_C_rowsNearer y_C_rowsNearer ∈ GW := gw_m 16 (by decide +kernel) (by decide +kernel)
theorem k_p17 : Cond.selects R_C y_C_buildBesides y_C_buildBesides ∈ GW := gw_m 17 (by decide +kernel) (by decide +kernel)
theorem k_p18 : Cond.selects R_C y_C_buildWithin y_C_buildWithin ∈ GW := gw_m 18 (by decide +kernel) (by decide +kernel)
theorem k_p19 : Cond.selects R_C y_C_renameClashes y_C_renameClashes ∈ GW := gw_m 19 (by decide +kernel) (by decide +kernel)
theorem k_p20 : Cond.selects R_C y_C_moveUses y_C_moveUses ∈ GW := gw_m 20 (by decide +kernel) (by decide +kernel)
theorem k_p21 : Cond.selects R_C y_C_unknownNames y_C_unknownNames ∈ GW := gw_m 21 (by decide +kernel) (by decide +kernel)
theorem k_p22 : Cond.selects R_M y_M_refuses y_M_refuses ∈ GW := gw_m 22 (by decide +kernel) (by decide +kernel)
theorem k_p23 : Cond.selects R_M y_M_begin y_M_begin ∈ GW := gw_m 23 (by decide +kernel) (by decide +kernel)
theorem k_p24 : Cond.selects R_M y_M_makes y_M_makes ∈ GW := gw_m 24 (by decide +kernel) (by decide +kernel)
theorem k_p25 : Cond.selects R_M y_M_isTooMuch y_M_isTooMuch ∈ GW := gw_m 25 (by decide +kernel) (by decide +kernel)
theorem k_p26 : Cond.selects R_M y_M_found y_M_found ∈ GW := gw_m 26 (by decide +kernel) (by decide +kernel)
theorem k_p27 : Cond.selects R_M y_M_at y_M_at ∈ GW := gw_m 27 (by decide +kernel) (by decide +kernel)
theorem k_p28 : Cond.selects R_M y_M_comes y_M_comes ∈ GW := gw_m 28 (by decide +kernel) (by decide +kernel)
theorem k_p29 : Cond.selects R_M y_M_told0 y_M_told0 ∈ GW := gw_m 29 (by decide +kernel) (by decide +kernel)
theorem k_p30 : Cond.selects R_M y_M_no y_M_no ∈ GW := gw_m 30 (by decide +kernel) (by decide +kernel)
theorem k_p31 : Cond.selects R_M y_M_canBeShort y_M_canBeShort ∈ GW := gw_m 31 (by decide +kernel) (by decide +kernel)
theorem k_p32 : Cond.selects R_M y_M_clashes y_M_clashes ∈ GW := gw_m 32 (by decide +kernel) (by decide +kernel)
theorem k_p33 : Cond.selects R_M y_M_spaceOf y_M_spaceOf ∈ GW := gw_m 33 (by decide +kernel) (by decide +kernel)
theorem k_p34 : Cond.selects R_M y_M_goesOn y_M_goesOn ∈ GW := gw_m 34 (by decide +kernel) (by decide +kernel)
theorem k_p35 : Cond.selects R_M y_M_isSpace y_M_isSpace ∈ GW := gw_m 35 (by decide +kernel) (by decide +kernel)
theorem k_p36 : Cond.selects R_M y_M_bestOf y_M_bestOf ∈ GW := gw_m 36 (by decide +kernel) (by decide +kernel)
theorem k_p37 : Cond.selects R_M y_M_isBefore y_M_isBefore ∈ GW := gw_m 37 (by decide +kernel) (by decide +kernel)
theorem k_p38 : Cond.selects R_M y_M_isTaken y_M_isTaken ∈ GW := gw_m 38 (by decide +kernel) (by decide +kernel)
theorem k_p39 : Cond.selects R_M y_M_rowOf y_M_rowOf ∈ GW := gw_m 39 (by decide +kernel) (by decide +kernel)
theorem k_p40 : Cond.selects R_M y_M_isUnknown y_M_isUnknown ∈ GW := gw_m 40 (by decide +kernel) (by decide +kernel)
theorem k_p41 : Cond.selects R_M y_M_distance y_M_distance ∈ GW := gw_m 41 (by decide +kernel) (by decide +kernel)
theorem k_p42 : Cond.selects R_M y_M_comesTo y_M_comesTo ∈ GW := gw_m 42 (by decide +kernel) (by decide +kernel)
theorem k_p43 : Cond.selects R_M y_M_canNotRename y_M_canNotRename ∈ GW := gw_m 43 (by decide +kernel) (by decide +kernel)
theorem k_0 : Cond.initialized "NameRulesLaw" ∈ GW := gw_m 44 (by decide +kernel) (by decide +kernel)
theorem k_1 : Cond.initialized "NameRules" ∈ GW := gw_m 45 (by decide +kernel) (by decide +kernel)
theorem k_2 : Cond.initialized "NameRules$Text" ∈ GW := gw_m 46 (by decide +kernel) (by decide +kernel)
theorem k_3 : Cond.initialized "NameRules$Names" ∈ GW := gw_m 47 (by decide +kernel) (by decide +kernel)
theorem k_4 : Cond.initialized "NameRules$Shorts" ∈ GW := gw_m 48 (by decide +kernel) (by decide +kernel)
theorem k_5 : Cond.initialized "NameRules$Rows" ∈ GW := gw_m 49 (by decide +kernel) (by decide +kernel)
theorem k_6 : Cond.initialized "NameRules$Standing" ∈ GW := gw_m 50 (by decide +kernel) (by decide +kernel)
theorem k_7 : Cond.initialized "NameRules$Renames" ∈ GW := gw_m 51 (by decide +kernel) (by decide +kernel)
theorem k_8 : Cond.initialized "NameRules$Steps" ∈ GW := gw_m 52 (by decide +kernel) (by decide +kernel)
theorem k_9 : Cond.initialized "NameRulesModel" ∈ GW := gw_m 53 (by decide +kernel) (by decide +kernel)
theorem k_10 : Cond.initialized "java/lang/Throwable" ∈ GW := gw_m 54 (by decide +kernel) (by decide +kernel)
theorem k_11 : Cond.initialized "java/lang/Exception" ∈ GW := gw_m 55 (by decide +kernel) (by decide +kernel)
theorem k_12 : Cond.initialized "java/lang/RuntimeException" ∈ GW := gw_m 56 (by decide +kernel) (by decide +kernel)
theorem k_13 : Cond.initialized "java/lang/IllegalArgumentException" ∈ GW := gw_m 57 (by decide +kernel) (by decide +kernel)
theorem k_14 : Cond.initialized "java/lang/UnsupportedOperationException" ∈ GW := gw_m 58 (by decide +kernel) (by decide +kernel)
theorem k_15 : Cond.initialized "java/lang/IllegalStateException" ∈ GW := gw_m 59 (by decide +kernel) (by decide +kernel)
theorem k_16 : Cond.initialized "java/lang/Math" ∈ GW := gw_m 60 (by decide +kernel) (by decide +kernel)
theorem k_17 : Cond.initialized "java/lang/IndexOutOfBoundsException" ∈ GW := gw_m 61 (by decide +kernel) (by decide +kernel)
theorem k_18 : Cond.classLink "NameRulesLaw" 8 "NameRules" ∈ GW := gw_m 62 (by decide +kernel) (by decide +kernel)
theorem k_19 : Cond.instantiable "NameRules" 15 ∈ GW := gw_m 63 (by decide +kernel) (by decide +kernel)
theorem k_20 : Cond.methodLink "NameRulesLaw" 94 y_C_init ∈ GW := gw_m 64 (by decide +kernel) (by decide +kernel)
theorem k_21 : Cond.instanceMethod y_C_init ∈ GW := gw_m 65 (by decide +kernel) (by decide +kernel)
theorem k_22 : Cond.code y_C_init prog_1_method_1_code 1 none ∈ GW := gw_m 66 (by decide +kernel) (by decide +kernel)
theorem k_23 : Cond.methodLink "NameRules" 3 objectInit ∈ GW := gw_m 67 (by decide +kernel) (by decide +kernel)
theorem k_24 : Cond.instanceMethod objectInit ∈ GW := gw_m 68 (by decide +kernel) (by decide +kernel)
theorem k_25 : Cond.code objectInit object_method_1_code 1 none ∈ GW := gw_m 69 (by decide +kernel) (by decide +kernel)
theorem k_26 : Cond.classLink "NameRules" 9 "NameRules$Text" ∈ GW := gw_m 70 (by decide +kernel) (by decide +kernel)
theorem k_27 : Cond.instantiable "NameRules$Text" 2 ∈ GW := gw_m 71 (by decide +kernel) (by decide +kernel)
theorem k_28 : Cond.methodLink "NameRules" 11 y_T_init ∈ GW := gw_m 72 (by decide +kernel) (by decide +kernel)
theorem k_29 : Cond.instanceMethod y_T_init ∈ GW := gw_m 73 (by decide +kernel) (by decide +kernel)
theorem k_30 : Cond.code y_T_init prog_8_method_1_code 2 none ∈ GW := gw_m 74 (by decide +kernel) (by decide +kernel)
theorem k_31 : Cond.methodLink "NameRules$Text" 3 objectInit ∈ GW := gw_m 75 (by decide +kernel) (by decide +kernel)
theorem k_32 : Cond.fieldLink "NameRules$Text" 9 "NameRules$Text" "characters" "[C" ∈ GW := gw_m 76 (by decide +kernel) (by decide +kernel)
theorem k_33 : Cond.fieldLink "NameRules$Text" 15 "NameRules$Text" "length" "I" ∈ GW := gw_m 77 (by decide +kernel) (by decide +kernel)
theorem k_38 : Cond.superclass "NameRules$Text" "java/lang/Object" ∈ GW := gw_m 82 (by decide +kernel) (by decide +kernel)
theorem k_39 : Cond.arrayClass .char ∈ GW := gw_m 83 (by decide +kernel) (by decide +kernel)
theorem k_40 : Cond.classLink "NameRules" 24 "NameRules$Names" ∈ GW := gw_m 84 (by decide +kernel) (by decide +kernel)
theorem k_41 : Cond.instantiable "NameRules$Names" 2 ∈ GW := gw_m 85 (by decide +kernel) (by decide +kernel)
theorem k_42 : Cond.methodLink "NameRules" 26 y_N_init ∈ GW := gw_m 86 (by decide +kernel) (by decide +kernel)
theorem k_43 : Cond.instanceMethod y_N_init ∈ GW := gw_m 87 (by decide +kernel) (by decide +kernel)
theorem k_44 : Cond.code y_N_init prog_2_method_1_code 2 none ∈ GW := gw_m 88 (by decide +kernel) (by decide +kernel)
theorem k_45 : Cond.methodLink "NameRules$Names" 3 objectInit ∈ GW := gw_m 89 (by decide +kernel) (by decide +kernel)
theorem k_46 : Cond.classLink "NameRules$Names" 9 "NameRules$Text" ∈ GW := gw_m 90 (by decide +kernel) (by decide +kernel)
theorem k_48 : Cond.methodLink "NameRules$Names" 17 y_T_init ∈ GW := gw_m 92 (by decide +kernel) (by decide +kernel)
theorem k_49 : Cond.fieldLink "NameRules$Names" 11 "NameRules$Names" "texts" "[LNameRules$Text;" ∈ GW := gw_m 93 (by decide +kernel) (by decide +kernel)
theorem k_50 : Cond.fieldLink "NameRules$Names" 20 "NameRules$Names" "size" "I" ∈ GW := gw_m 94 (by decide +kernel) (by decide +kernel)
theorem k_55 : Cond.superclass "NameRules$Names" "java/lang/Object" ∈ GW := gw_m 99 (by decide +kernel) (by decide +kernel)
theorem k_56 : Cond.classLink "NameRules" 31 "NameRules$Shorts" ∈ GW := gw_m 100 (by decide +kernel) (by decide +kernel)
theorem k_57 : Cond.instantiable "NameRules$Shorts" 5 ∈ GW := gw_m 101 (by decide +kernel) (by decide +kernel)
theorem k_58 : Cond.methodLink "NameRules" 33 y_H_init ∈ GW := gw_m 102 (by decide +kernel) (by decide +kernel)
theorem k_59 : Cond.instanceMethod y_H_init ∈ GW := gw_m 103 (by decide +kernel) (by decide +kernel)
theorem k_60 : Cond.code y_H_init prog_5_method_1_code 3 none ∈ GW := gw_m 104 (by decide +kernel) (by decide +kernel)
theorem k_61 : Cond.methodLink "NameRules$Shorts" 3 objectInit ∈ GW := gw_m 105 (by decide +kernel) (by decide +kernel)
theorem k_62 : Cond.fieldLink "NameRules$Shorts" 9 "NameRules$Shorts" "names" "LNameRules$Names;" ∈ GW := gw_m 106 (by decide +kernel) (by decide +kernel)
theorem k_63 : Cond.fieldLink "NameRules$Shorts" 15 "NameRules$Shorts" "spaceOfShort" "[I" ∈ GW := gw_m 107 (by decide +kernel) (by decide +kernel)
theorem k_64 : Cond.fieldLink "NameRules$Shorts" 19 "NameRules$Shorts" "bestOfSpace" "[I" ∈ GW := gw_m 108 (by decide +kernel) (by decide +kernel)
theorem k_65 : Cond.fieldLink "NameRules$Shorts" 22 "NameRules$Shorts" "size" "I" ∈ GW := gw_m 109 (by decide +kernel) (by decide +kernel)
theorem k_66 : Cond.fieldLink "NameRules$Shorts" 26 "NameRules$Shorts" "spaces" "I" ∈ GW := gw_m 110 (by decide +kernel) (by decide +kernel)
theorem k_77 : Cond.superclass "NameRules$Shorts" "java/lang/Object" ∈ GW := gw_m 121 (by decide +kernel) (by decide +kernel)
theorem k_78 : Cond.arrayClass .int ∈ GW := gw_m 122 (by decide +kernel) (by decide +kernel)
theorem k_79 : Cond.classLink "NameRules" 40 "NameRules$Rows" ∈ GW := gw_m 123 (by decide +kernel) (by decide +kernel)
theorem k_80 : Cond.instantiable "NameRules$Rows" 2 ∈ GW := gw_m 124 (by decide +kernel) (by decide +kernel)
theorem k_81 : Cond.methodLink "NameRules" 42 y_W_init ∈ GW := gw_m 125 (by decide +kernel) (by decide +kernel)
theorem k_82 : Cond.instanceMethod y_W_init ∈ GW := gw_m 126 (by decide +kernel) (by decide +kernel)
theorem k_83 : Cond.code y_W_init prog_4_method_1_code 1 none ∈ GW := gw_m 127 (by decide +kernel) (by decide +kernel)
theorem k_84 : Cond.methodLink "NameRules$Rows" 3 objectInit ∈ GW := gw_m 128 (by decide +kernel) (by decide +kernel)
theorem k_85 : Cond.fieldLink "NameRules$Rows" 11 "NameRules$Rows" "cells" "[I" ∈ GW := gw_m 129 (by decide +kernel) (by decide +kernel)
theorem k_86 : Cond.fieldLink "NameRules$Rows" 15 "NameRules$Rows" "size" "I" ∈ GW := gw_m 130 (by decide +kernel) (by decide +kernel)
theorem k_91 : Cond.superclass "NameRules$Rows" "java/lang/Object" ∈ GW := gw_m 135 (by decide +kernel) (by decide +kernel)
theorem k_92 : Cond.classLink "NameRules" 47 "NameRules$Standing" ∈ GW := gw_m 136 (by decide +kernel) (by decide +kernel)
theorem k_93 : Cond.instantiable "NameRules$Standing" 1 ∈ GW := gw_m 137 (by decide +kernel) (by decide +kernel)
theorem k_94 : Cond.methodLink "NameRules" 49 y_G_init ∈ GW := gw_m 138 (by decide +kernel) (by decide +kernel)
theorem k_95 : Cond.instanceMethod y_G_init ∈ GW := gw_m 139 (by decide +kernel) (by decide +kernel)
theorem k_96 : Cond.code y_G_init prog_6_method_1_code 2 none ∈ GW := gw_m 140 (by decide +kernel) (by decide +kernel)
theorem k_97 : Cond.methodLink "NameRules$Standing" 3 objectInit ∈ GW := gw_m 141 (by decide +kernel) (by decide +kernel)
theorem k_98 : Cond.fieldLink "NameRules$Standing" 9 "NameRules$Standing" "standsFor" "[I" ∈ GW := gw_m 142 (by decide +kernel) (by decide +kernel)
theorem k_101 : Cond.superclass "NameRules$Standing" "java/lang/Object" ∈ GW := gw_m 145 (by decide +kernel) (by decide +kernel)
theorem k_102 : Cond.classLink "NameRules" 54 "NameRules$Renames" ∈ GW := gw_m 146 (by decide +kernel) (by decide +kernel)
theorem k_103 : Cond.instantiable "NameRules$Renames" 3 ∈ GW := gw_m 147 (by decide +kernel) (by decide +kernel)
theorem k_104 : Cond.methodLink "NameRules" 56 y_R_init ∈ GW := gw_m 148 (by decide +kernel) (by decide +kernel)
theorem k_105 : Cond.instanceMethod y_R_init ∈ GW := gw_m 149 (by decide +kernel) (by decide +kernel)
theorem k_106 : Cond.code y_R_init prog_3_method_1_code 1 none ∈ GW := gw_m 150 (by decide +kernel) (by decide +kernel)
theorem k_107 : Cond.methodLink "NameRules$Renames" 3 objectInit ∈ GW := gw_m 151 (by decide +kernel) (by decide +kernel)
theorem k_108 : Cond.fieldLink "NameRules$Renames" 9 "NameRules$Renames" "olds" "[I" ∈ GW := gw_m 152 (by decide +kernel) (by decide +kernel)
theorem k_109 : Cond.fieldLink "NameRules$Renames" 15 "NameRules$Renames" "news" "[I" ∈ GW := gw_m 153 (by decide +kernel) (by decide +kernel)
theorem k_110 : Cond.fieldLink "NameRules$Renames" 18 "NameRules$Renames" "size" "I" ∈ GW := gw_m 154 (by decide +kernel) (by decide +kernel)
theorem k_117 : Cond.superclass "NameRules$Renames" "java/lang/Object" ∈ GW := gw_m 161 (by decide +kernel) (by decide +kernel)
theorem k_118 : Cond.classLink "NameRules" 61 "NameRules$Steps" ∈ GW := gw_m 162 (by decide +kernel) (by decide +kernel)
theorem k_119 : Cond.instantiable "NameRules$Steps" 1 ∈ GW := gw_m 163 (by decide +kernel) (by decide +kernel)
theorem k_120 : Cond.methodLink "NameRules" 63 y_E_init ∈ GW := gw_m 164 (by decide +kernel) (by decide +kernel)
theorem k_121 : Cond.instanceMethod y_E_init ∈ GW := gw_m 165 (by decide +kernel) (by decide +kernel)
theorem k_122 : Cond.code y_E_init prog_7_method_1_code 1 none ∈ GW := gw_m 166 (by decide +kernel) (by decide +kernel)
theorem k_123 : Cond.methodLink "NameRules$Steps" 3 objectInit ∈ GW := gw_m 167 (by decide +kernel) (by decide +kernel)
theorem k_124 : Cond.fieldLink "NameRules$Steps" 9 "NameRules$Steps" "held" "[I" ∈ GW := gw_m 168 (by decide +kernel) (by decide +kernel)
theorem k_127 : Cond.superclass "NameRules$Steps" "java/lang/Object" ∈ GW := gw_m 171 (by decide +kernel) (by decide +kernel)
theorem k_128 : Cond.fieldLink "NameRules" 14 "NameRules" "tape" "LNameRules$Text;" ∈ GW := gw_m 172 (by decide +kernel) (by decide +kernel)
theorem k_129 : Cond.fieldLink "NameRules" 18 "NameRules" "printed" "LNameRules$Text;" ∈ GW := gw_m 173 (by decide +kernel) (by decide +kernel)
theorem k_130 : Cond.fieldLink "NameRules" 21 "NameRules" "built" "LNameRules$Text;" ∈ GW := gw_m 174 (by decide +kernel) (by decide +kernel)
theorem k_131 : Cond.fieldLink "NameRules" 27 "NameRules" "names" "LNameRules$Names;" ∈ GW := gw_m 175 (by decide +kernel) (by decide +kernel)
theorem k_132 : Cond.fieldLink "NameRules" 36 "NameRules" "shorts" "LNameRules$Shorts;" ∈ GW := gw_m 176 (by decide +kernel) (by decide +kernel)
theorem k_133 : Cond.fieldLink "NameRules" 43 "NameRules" "rows" "LNameRules$Rows;" ∈ GW := gw_m 177 (by decide +kernel) (by decide +kernel)
theorem k_134 : Cond.fieldLink "NameRules" 50 "NameRules" "standing" "LNameRules$Standing;" ∈ GW := gw_m 178 (by decide +kernel) (by decide +kernel)
theorem k_135 : Cond.fieldLink "NameRules" 57 "NameRules" "renames" "LNameRules$Renames;" ∈ GW := gw_m 179 (by decide +kernel) (by decide +kernel)
theorem k_136 : Cond.fieldLink "NameRules" 64 "NameRules" "steps" "LNameRules$Steps;" ∈ GW := gw_m 180 (by decide +kernel) (by decide +kernel)
theorem k_137 : Cond.fieldLink "NameRules" 68 "NameRules" "uses" "[I" ∈ GW := gw_m 181 (by decide +kernel) (by decide +kernel)
theorem k_138 : Cond.fieldLink "NameRules" 72 "NameRules" "termSpaces" "[Z" ∈ GW := gw_m 182 (by decide +kernel) (by decide +kernel)
theorem k_139 : Cond.fieldLink "NameRules" 76 "NameRules" "distances" "[I" ∈ GW := gw_m 183 (by decide +kernel) (by decide +kernel)
theorem k_140 : Cond.fieldLink "NameRules" 79 "NameRules" "clashKind" "I" ∈ GW := gw_m 184 (by decide +kernel) (by decide +kernel)
theorem k_141 : Cond.fieldLink "NameRules" 83 "NameRules" "clashFirst" "I" ∈ GW := gw_m 185 (by decide +kernel) (by decide +kernel)
theorem k_142 : Cond.fieldLink "NameRules" 86 "NameRules" "clashSecond" "I" ∈ GW := gw_m 186 (by decide +kernel) (by decide +kernel)
theorem k_173 : Cond.superclass "NameRules" "java/lang/Object" ∈ GW := gw_m 217 (by decide +kernel) (by decide +kernel)
theorem k_174 : Cond.arrayClass .boolean ∈ GW := gw_m 218 (by decide +kernel) (by decide +kernel)
theorem k_175 : Cond.methodLink "NameRulesLaw" 107 y_C_clear ∈ GW := gw_m 219 (by decide +kernel) (by decide +kernel)
theorem k_176 : Cond.instanceMethod y_C_clear ∈ GW := gw_m 220 (by decide +kernel) (by decide +kernel)
theorem k_177 : Cond.selects "NameRules" y_C_clear y_C_clear ∈ GW := gw_m 221 (by decide +kernel) (by decide +kernel)
theorem k_178 : Cond.code y_C_clear prog_1_method_3_code 2 (some .int) ∈ GW := gw_m 222 (by decide +kernel) (by decide +kernel)
theorem k_179 : Cond.methodLink "NameRules" 109 y_T_length ∈ GW := gw_m 223 (by decide +kernel) (by decide +kernel)
theorem k_180 : Cond.instanceMethod y_T_length ∈ GW := gw_m 224 (by decide +kernel) (by decide +kernel)
theorem k_181 : Cond.selects "NameRules$Text" y_T_length y_T_length ∈ GW := gw_m 225 (by decide +kernel) (by decide +kernel)
theorem k_182 : Cond.code y_T_length prog_8_method_2_code 1 (some .int) ∈ GW := gw_m 226 (by decide +kernel) (by decide +kernel)
theorem k_183 : Cond.methodLink "NameRules" 113 y_T_empty ∈ GW := gw_m 227 (by decide +kernel) (by decide +kernel)
theorem k_184 : Cond.instanceMethod y_T_empty ∈ GW := gw_m 228 (by decide +kernel) (by decide +kernel)
theorem k_185 : Cond.selects "NameRules$Text" y_T_empty y_T_empty ∈ GW := gw_m 229 (by decide +kernel) (by decide +kernel)
theorem k_186 : Cond.code y_T_empty prog_8_method_6_code 1 none ∈ GW := gw_m 230 (by decide +kernel) (by decide +kernel)
theorem k_187 : Cond.methodLink "NameRulesLaw" 134 y_C_letter ∈ GW := gw_m 231 (by decide +kernel) (by decide +kernel)
theorem k_188 : Cond.instanceMethod y_C_letter ∈ GW := gw_m 232 (by decide +kernel) (by decide +kernel)
theorem k_189 : Cond.selects "NameRules" y_C_letter y_C_letter ∈ GW := gw_m 233 (by decide +kernel) (by decide +kernel)
theorem k_190 : Cond.code y_C_letter prog_1_method_11_code 2 (some .char) ∈ GW := gw_m 234 (by decide +kernel) (by decide +kernel)
theorem k_191 : Cond.methodLink "NameRules" 179 y_T_at ∈ GW := gw_m 235 (by decide +kernel) (by decide +kernel)
theorem k_192 : Cond.instanceMethod y_T_at ∈ GW := gw_m 236 (by decide +kernel) (by decide +kernel)
theorem k_193 : Cond.selects "NameRules$Text" y_T_at y_T_at ∈ GW := gw_m 237 (by decide +kernel) (by decide +kernel)
theorem k_194 : Cond.code y_T_at prog_8_method_5_code 2 (some .char) ∈ GW := gw_m 238 (by decide +kernel) (by decide +kernel)
theorem k_195 : Cond.methodLink "NameRulesLaw" 98 y_L_type ∈ GW := gw_m 239 (by decide +kernel) (by decide +kernel)
theorem k_196 : Cond.static y_L_type ∈ GW := gw_m 240 (by decide +kernel) (by decide +kernel)
theorem k_197 : Cond.codeWith y_L_type method_3_code 4 (some .int) [(0, 9, 12, 13), (0, 9, 15, 15)] ∈ GW := gw_m 241 (by decide +kernel) (by decide +kernel)
theorem k_198 : Cond.classLink "NameRulesLaw" 13 "java/lang/IllegalArgumentException" ∈ GW := gw_m 242 (by decide +kernel) (by decide +kernel)
theorem k_199 : Cond.classLink "NameRulesLaw" 15 "java/lang/UnsupportedOperationException" ∈ GW := gw_m 243 (by decide +kernel) (by decide +kernel)
theorem k_200 : Cond.methodLink "NameRulesLaw" 7 y_C_type ∈ GW := gw_m 244 (by decide +kernel) (by decide +kernel)
theorem k_201 : Cond.instanceMethod y_C_type ∈ GW := gw_m 245 (by decide +kernel) (by decide +kernel)
theorem k_202 : Cond.selects "NameRules" y_C_type y_C_type ∈ GW := gw_m 246 (by decide +kernel) (by decide +kernel)
theorem k_203 : Cond.code y_C_type prog_1_method_2_code 2 (some .int) ∈ GW := gw_m 247 (by decide +kernel) (by decide +kernel)
theorem k_204 : Cond.classLink "NameRules" 89 "java/lang/IllegalArgumentException" ∈ GW := gw_m 248 (by decide +kernel) (by decide +kernel)
theorem k_205 : Cond.instantiable "java/lang/IllegalArgumentException" 6 ∈ GW := gw_m 249 (by decide +kernel) (by decide +kernel)
theorem k_213 : Cond.selects "java/lang/IllegalArgumentException" ⟨"java/lang/Throwable", "fillInStackTrace", "(I)Ljava/lang/Throwable;"⟩ ⟨"java/lang/Throwable", "fillInStackTrace", "(I)Ljava/lang/Throwable;"⟩ ∈ GW := gw_m 257 (by decide +kernel) (by decide +kernel)
theorem k_214 : Cond.selects "java/lang/IllegalArgumentException" ⟨"java/lang/Throwable", "fillInStackTrace", "()Ljava/lang/Throwable;"⟩ ⟨"java/lang/Throwable", "fillInStackTrace", "()Ljava/lang/Throwable;"⟩ ∈ GW := gw_m 258 (by decide +kernel) (by decide +kernel)
theorem k_225 : Cond.fieldLink "java/lang/Throwable" 198 "java/lang/Throwable" "backtrace" "Ljava/lang/Object;" ∈ GW := gw_m 269 (by decide +kernel) (by decide +kernel)
theorem k_226 : Cond.superclass "java/lang/Throwable" "java/lang/Object" ∈ GW := gw_m 270 (by decide +kernel) (by decide +kernel)
theorem k_227 : Cond.instanceMethod ⟨"java/lang/Throwable", "<init>", "()V"⟩ ∈ GW := gw_m 271 (by decide +kernel) (by decide +kernel)
theorem k_228 : Cond.code ⟨"java/lang/Throwable", "<init>", "()V"⟩ prog_18_method_1_code 1 none ∈ GW := gw_m 272 (by decide +kernel) (by decide +kernel)
theorem k_229 : Cond.methodLink "java/lang/Throwable" 1 objectInit ∈ GW := gw_m 273 (by decide +kernel) (by decide +kernel)
theorem k_230 : Cond.fieldLink "java/lang/Throwable" 13 "java/lang/Throwable" "UNASSIGNED_STACK" "[Ljava/lang/StackTraceElement;" ∈ GW := gw_m 274 (by decide +kernel) (by decide +kernel)
theorem k_232 : Cond.fieldLink "java/lang/Throwable" 20 "java/lang/Throwable" "SUPPRESSED_SENTINEL" "Ljava/util/List;" ∈ GW := gw_m 276 (by decide +kernel) (by decide +kernel)
theorem k_234 : Cond.methodLink "java/lang/Throwable" 27 ⟨"java/lang/Throwable", "fillInStackTrace", "()Ljava/lang/Throwable;"⟩ ∈ GW := gw_m 278 (by decide +kernel) (by decide +kernel)
theorem k_235 : Cond.instanceMethod ⟨"java/lang/Throwable", "fillInStackTrace", "()Ljava/lang/Throwable;"⟩ ∈ GW := gw_m 279 (by decide +kernel) (by decide +kernel)
theorem k_236 : Cond.sameMethod "java/lang/Throwable" "java/lang/Throwable" "fillInStackTrace" "()Ljava/lang/Throwable;" ∈ GW := gw_m 280 (by decide +kernel) (by decide +kernel)
theorem k_237 : Cond.selects "java/lang/IllegalStateException" ⟨"java/lang/Throwable", "fillInStackTrace", "()Ljava/lang/Throwable;"⟩ ⟨"java/lang/Throwable", "fillInStackTrace", "()Ljava/lang/Throwable;"⟩ ∈ GW := gw_m 281 (by decide +kernel) (by decide +kernel)
theorem k_238 : Cond.selects "java/lang/IndexOutOfBoundsException" ⟨"java/lang/Throwable", "fillInStackTrace", "()Ljava/lang/Throwable;"⟩ ⟨"java/lang/Throwable", "fillInStackTrace", "()Ljava/lang/Throwable;"⟩ ∈ GW := gw_m 282 (by decide +kernel) (by decide +kernel)
theorem k_239 : Cond.selects "java/lang/UnsupportedOperationException" ⟨"java/lang/Throwable", "fillInStackTrace", "()Ljava/lang/Throwable;"⟩ ⟨"java/lang/Throwable", "fillInStackTrace", "()Ljava/lang/Throwable;"⟩ ∈ GW := gw_m 283 (by decide +kernel) (by decide +kernel)
theorem k_241 : Cond.methodLink "java/lang/Throwable" 202 ⟨"java/lang/Throwable", "fillInStackTrace", "(I)Ljava/lang/Throwable;"⟩ ∈ GW := gw_m 285 (by decide +kernel) (by decide +kernel)
theorem k_243 : Cond.instanceMethod ⟨"java/lang/Throwable", "fillInStackTrace", "(I)Ljava/lang/Throwable;"⟩ ∈ GW := gw_m 287 (by decide +kernel) (by decide +kernel)
theorem k_244 : Cond.instantiable "java/lang/Throwable" 6 ∈ GW := gw_m 288 (by decide +kernel) (by decide +kernel)
theorem k_247 : Cond.methodLink "NameRules" 93 ⟨"java/lang/IllegalArgumentException", "<init>", "(Ljava/lang/String;)V"⟩ ∈ GW := gw_m 291 (by decide +kernel) (by decide +kernel)
theorem k_248 : Cond.instanceMethod ⟨"java/lang/IllegalArgumentException", "<init>", "(Ljava/lang/String;)V"⟩ ∈ GW := gw_m 292 (by decide +kernel) (by decide +kernel)
theorem k_249 : Cond.code ⟨"java/lang/IllegalArgumentException", "<init>", "(Ljava/lang/String;)V"⟩ prog_12_method_2_code 2 none ∈ GW := gw_m 293 (by decide +kernel) (by decide +kernel)
theorem k_250 : Cond.methodLink "java/lang/IllegalArgumentException" 7 ⟨"java/lang/RuntimeException", "<init>", "(Ljava/lang/String;)V"⟩ ∈ GW := gw_m 294 (by decide +kernel) (by decide +kernel)
theorem k_251 : Cond.instanceMethod ⟨"java/lang/RuntimeException", "<init>", "(Ljava/lang/String;)V"⟩ ∈ GW := gw_m 295 (by decide +kernel) (by decide +kernel)
theorem k_252 : Cond.code ⟨"java/lang/RuntimeException", "<init>", "(Ljava/lang/String;)V"⟩ prog_16_method_2_code 2 none ∈ GW := gw_m 296 (by decide +kernel) (by decide +kernel)
theorem k_253 : Cond.methodLink "java/lang/RuntimeException" 7 ⟨"java/lang/Exception", "<init>", "(Ljava/lang/String;)V"⟩ ∈ GW := gw_m 297 (by decide +kernel) (by decide +kernel)
theorem k_254 : Cond.instanceMethod ⟨"java/lang/Exception", "<init>", "(Ljava/lang/String;)V"⟩ ∈ GW := gw_m 298 (by decide +kernel) (by decide +kernel)
theorem k_255 : Cond.code ⟨"java/lang/Exception", "<init>", "(Ljava/lang/String;)V"⟩ prog_11_method_2_code 2 none ∈ GW := gw_m 299 (by decide +kernel) (by decide +kernel)
theorem k_256 : Cond.methodLink "java/lang/Exception" 7 ⟨"java/lang/Throwable", "<init>", "(Ljava/lang/String;)V"⟩ ∈ GW := gw_m 300 (by decide +kernel) (by decide +kernel)
theorem k_257 : Cond.instanceMethod ⟨"java/lang/Throwable", "<init>", "(Ljava/lang/String;)V"⟩ ∈ GW := gw_m 301 (by decide +kernel) (by decide +kernel)
theorem k_258 : Cond.code ⟨"java/lang/Throwable", "<init>", "(Ljava/lang/String;)V"⟩ prog_18_method_2_code 2 none ∈ GW := gw_m 302 (by decide +kernel) (by decide +kernel)
theorem k_259 : Cond.fieldLink "java/lang/Throwable" 198 "java/lang/Throwable" "backtrace" "Ljava/lang/Object;" ∈ GW := gw_m 303 (by decide +kernel) (by decide +kernel)
theorem k_260 : Cond.fieldLink "java/lang/Throwable" 31 "java/lang/Throwable" "detailMessage" "Ljava/lang/String;" ∈ GW := gw_m 304 (by decide +kernel) (by decide +kernel)
theorem k_261 : Cond.fieldLink "java/lang/Throwable" 7 "java/lang/Throwable" "cause" "Ljava/lang/Throwable;" ∈ GW := gw_m 305 (by decide +kernel) (by decide +kernel)
theorem k_262 : Cond.fieldLink "java/lang/Throwable" 17 "java/lang/Throwable" "stackTrace" "[Ljava/lang/StackTraceElement;" ∈ GW := gw_m 306 (by decide +kernel) (by decide +kernel)
theorem k_263 : Cond.fieldLink "java/lang/Throwable" 24 "java/lang/Throwable" "suppressedExceptions" "Ljava/util/List;" ∈ GW := gw_m 307 (by decide +kernel) (by decide +kernel)
theorem k_271 : Cond.superclass "java/lang/IllegalArgumentException" "java/lang/RuntimeException" ∈ GW := gw_m 315 (by decide +kernel) (by decide +kernel)
theorem k_272 : Cond.arrayClass .byte ∈ GW := gw_m 316 (by decide +kernel) (by decide +kernel)
theorem k_273 : Cond.methodLink "NameRules" 96 y_T_isFull ∈ GW := gw_m 317 (by decide +kernel) (by decide +kernel)
theorem k_274 : Cond.instanceMethod y_T_isFull ∈ GW := gw_m 318 (by decide +kernel) (by decide +kernel)
theorem k_275 : Cond.selects "NameRules$Text" y_T_isFull y_T_isFull ∈ GW := gw_m 319 (by decide +kernel) (by decide +kernel)
theorem k_276 : Cond.code y_T_isFull prog_8_method_4_code 1 (some .boolean) ∈ GW := gw_m 320 (by decide +kernel) (by decide +kernel)
theorem k_277 : Cond.classLink "NameRules" 100 "java/lang/UnsupportedOperationException" ∈ GW := gw_m 321 (by decide +kernel) (by decide +kernel)
theorem k_278 : Cond.instantiable "java/lang/UnsupportedOperationException" 6 ∈ GW := gw_m 322 (by decide +kernel) (by decide +kernel)
theorem k_280 : Cond.selects "java/lang/UnsupportedOperationException" ⟨"java/lang/Throwable", "fillInStackTrace", "(I)Ljava/lang/Throwable;"⟩ ⟨"java/lang/Throwable", "fillInStackTrace", "(I)Ljava/lang/Throwable;"⟩ ∈ GW := gw_m 324 (by decide +kernel) (by decide +kernel)
theorem k_287 : Cond.methodLink "NameRules" 104 ⟨"java/lang/UnsupportedOperationException", "<init>", "(Ljava/lang/String;)V"⟩ ∈ GW := gw_m 331 (by decide +kernel) (by decide +kernel)
theorem k_288 : Cond.instanceMethod ⟨"java/lang/UnsupportedOperationException", "<init>", "(Ljava/lang/String;)V"⟩ ∈ GW := gw_m 332 (by decide +kernel) (by decide +kernel)
theorem k_289 : Cond.code ⟨"java/lang/UnsupportedOperationException", "<init>", "(Ljava/lang/String;)V"⟩ prog_19_method_2_code 2 none ∈ GW := gw_m 333 (by decide +kernel) (by decide +kernel)
theorem k_290 : Cond.methodLink "java/lang/UnsupportedOperationException" 7 ⟨"java/lang/RuntimeException", "<init>", "(Ljava/lang/String;)V"⟩ ∈ GW := gw_m 334 (by decide +kernel) (by decide +kernel)
theorem k_292 : Cond.superclass "java/lang/UnsupportedOperationException" "java/lang/RuntimeException" ∈ GW := gw_m 336 (by decide +kernel) (by decide +kernel)
theorem k_293 : Cond.methodLink "NameRules" 105 y_T_put ∈ GW := gw_m 337 (by decide +kernel) (by decide +kernel)
theorem k_294 : Cond.instanceMethod y_T_put ∈ GW := gw_m 338 (by decide +kernel) (by decide +kernel)
theorem k_295 : Cond.selects "NameRules$Text" y_T_put y_T_put ∈ GW := gw_m 339 (by decide +kernel) (by decide +kernel)
theorem k_296 : Cond.code y_T_put prog_8_method_7_code 2 none ∈ GW := gw_m 340 (by decide +kernel) (by decide +kernel)
theorem k_297 : Cond.methodLink "NameRulesLaw" 111 y_L_name ∈ GW := gw_m 341 (by decide +kernel) (by decide +kernel)
theorem k_298 : Cond.static y_L_name ∈ GW := gw_m 342 (by decide +kernel) (by decide +kernel)
theorem k_299 : Cond.codeWith y_L_name method_4_code 3 (some .int) [(0, 8, 11, 21), (0, 8, 14, 15)] ∈ GW := gw_m 343 (by decide +kernel) (by decide +kernel)
theorem k_300 : Cond.classLink "NameRulesLaw" 21 "java/lang/IllegalStateException" ∈ GW := gw_m 344 (by decide +kernel) (by decide +kernel)
theorem k_301 : Cond.methodLink "NameRulesLaw" 17 y_C_name ∈ GW := gw_m 345 (by decide +kernel) (by decide +kernel)
theorem k_302 : Cond.instanceMethod y_C_name ∈ GW := gw_m 346 (by decide +kernel) (by decide +kernel)
theorem k_303 : Cond.selects "NameRules" y_C_name y_C_name ∈ GW := gw_m 347 (by decide +kernel) (by decide +kernel)
theorem k_304 : Cond.code y_C_name prog_1_method_4_code 2 (some .int) ∈ GW := gw_m 348 (by decide +kernel) (by decide +kernel)
theorem k_305 : Cond.methodLink "NameRules" 116 y_C_requireTape ∈ GW := gw_m 349 (by decide +kernel) (by decide +kernel)
theorem k_307 : Cond.instanceMethod y_C_requireTape ∈ GW := gw_m 351 (by decide +kernel) (by decide +kernel)
theorem k_308 : Cond.code y_C_requireTape prog_1_method_30_code 1 none ∈ GW := gw_m 352 (by decide +kernel) (by decide +kernel)
theorem k_309 : Cond.methodLink "NameRules" 126 y_T_isEmpty ∈ GW := gw_m 353 (by decide +kernel) (by decide +kernel)
theorem k_310 : Cond.instanceMethod y_T_isEmpty ∈ GW := gw_m 354 (by decide +kernel) (by decide +kernel)
theorem k_311 : Cond.selects "NameRules$Text" y_T_isEmpty y_T_isEmpty ∈ GW := gw_m 355 (by decide +kernel) (by decide +kernel)
theorem k_312 : Cond.code y_T_isEmpty prog_8_method_3_code 1 (some .boolean) ∈ GW := gw_m 356 (by decide +kernel) (by decide +kernel)
theorem k_313 : Cond.classLink "NameRules" 189 "java/lang/IllegalStateException" ∈ GW := gw_m 357 (by decide +kernel) (by decide +kernel)
theorem k_314 : Cond.instantiable "java/lang/IllegalStateException" 6 ∈ GW := gw_m 358 (by decide +kernel) (by decide +kernel)
theorem k_316 : Cond.selects "java/lang/IllegalStateException" ⟨"java/lang/Throwable", "fillInStackTrace", "(I)Ljava/lang/Throwable;"⟩ ⟨"java/lang/Throwable", "fillInStackTrace", "(I)Ljava/lang/Throwable;"⟩ ∈ GW := gw_m 360 (by decide +kernel) (by decide +kernel)
theorem k_323 : Cond.methodLink "NameRules" 193 ⟨"java/lang/IllegalStateException", "<init>", "(Ljava/lang/String;)V"⟩ ∈ GW := gw_m 367 (by decide +kernel) (by decide +kernel)
theorem k_324 : Cond.instanceMethod ⟨"java/lang/IllegalStateException", "<init>", "(Ljava/lang/String;)V"⟩ ∈ GW := gw_m 368 (by decide +kernel) (by decide +kernel)
theorem k_325 : Cond.code ⟨"java/lang/IllegalStateException", "<init>", "(Ljava/lang/String;)V"⟩ prog_13_method_2_code 2 none ∈ GW := gw_m 369 (by decide +kernel) (by decide +kernel)
theorem k_326 : Cond.methodLink "java/lang/IllegalStateException" 7 ⟨"java/lang/RuntimeException", "<init>", "(Ljava/lang/String;)V"⟩ ∈ GW := gw_m 370 (by decide +kernel) (by decide +kernel)
theorem k_328 : Cond.superclass "java/lang/IllegalStateException" "java/lang/RuntimeException" ∈ GW := gw_m 372 (by decide +kernel) (by decide +kernel)
theorem k_329 : Cond.methodLink "NameRules" 119 y_C_numberOf ∈ GW := gw_m 373 (by decide +kernel) (by decide +kernel)
theorem k_331 : Cond.instanceMethod y_C_numberOf ∈ GW := gw_m 375 (by decide +kernel) (by decide +kernel)
theorem k_332 : Cond.code y_C_numberOf prog_1_method_32_code 3 (some .int) ∈ GW := gw_m 376 (by decide +kernel) (by decide +kernel)
theorem k_333 : Cond.methodLink "NameRules" 306 y_N_find ∈ GW := gw_m 377 (by decide +kernel) (by decide +kernel)
theorem k_334 : Cond.instanceMethod y_N_find ∈ GW := gw_m 378 (by decide +kernel) (by decide +kernel)
theorem k_335 : Cond.selects "NameRules$Names" y_N_find y_N_find ∈ GW := gw_m 379 (by decide +kernel) (by decide +kernel)
theorem k_336 : Cond.code y_N_find prog_2_method_6_code 3 (some .int) ∈ GW := gw_m 380 (by decide +kernel) (by decide +kernel)
theorem k_337 : Cond.methodLink "NameRules$Names" 24 y_T_compareWith ∈ GW := gw_m 381 (by decide +kernel) (by decide +kernel)
theorem k_338 : Cond.instanceMethod y_T_compareWith ∈ GW := gw_m 382 (by decide +kernel) (by decide +kernel)
theorem k_339 : Cond.selects "NameRules$Text" y_T_compareWith y_T_compareWith ∈ GW := gw_m 383 (by decide +kernel) (by decide +kernel)
theorem k_340 : Cond.code y_T_compareWith prog_8_method_13_code 4 (some .int) ∈ GW := gw_m 384 (by decide +kernel) (by decide +kernel)
theorem k_341 : Cond.methodLink "NameRules$Text" 31 ⟨"java/lang/Math", "min", "(II)I"⟩ ∈ GW := gw_m 385 (by decide +kernel) (by decide +kernel)
theorem k_342 : Cond.static ⟨"java/lang/Math", "min", "(II)I"⟩ ∈ GW := gw_m 386 (by decide +kernel) (by decide +kernel)
theorem k_343 : Cond.code ⟨"java/lang/Math", "min", "(II)I"⟩ prog_15_method_69_code 2 (some .int) ∈ GW := gw_m 387 (by decide +kernel) (by decide +kernel)
theorem k_344 : Cond.methodLink "NameRules" 309 y_N_isFull ∈ GW := gw_m 388 (by decide +kernel) (by decide +kernel)
theorem k_345 : Cond.instanceMethod y_N_isFull ∈ GW := gw_m 389 (by decide +kernel) (by decide +kernel)
theorem k_346 : Cond.selects "NameRules$Names" y_N_isFull y_N_isFull ∈ GW := gw_m 390 (by decide +kernel) (by decide +kernel)
theorem k_347 : Cond.code y_N_isFull prog_2_method_4_code 1 (some .boolean) ∈ GW := gw_m 391 (by decide +kernel) (by decide +kernel)
theorem k_349 : Cond.methodLink "NameRules" 312 y_N_add ∈ GW := gw_m 393 (by decide +kernel) (by decide +kernel)
theorem k_350 : Cond.instanceMethod y_N_add ∈ GW := gw_m 394 (by decide +kernel) (by decide +kernel)
theorem k_351 : Cond.selects "NameRules$Names" y_N_add y_N_add ∈ GW := gw_m 395 (by decide +kernel) (by decide +kernel)
theorem k_352 : Cond.code y_N_add prog_2_method_7_code 3 (some .int) ∈ GW := gw_m 396 (by decide +kernel) (by decide +kernel)
theorem k_353 : Cond.methodLink "NameRules$Names" 28 y_T_putAll ∈ GW := gw_m 397 (by decide +kernel) (by decide +kernel)
theorem k_354 : Cond.instanceMethod y_T_putAll ∈ GW := gw_m 398 (by decide +kernel) (by decide +kernel)
theorem k_355 : Cond.selects "NameRules$Text" y_T_putAll y_T_putAll ∈ GW := gw_m 399 (by decide +kernel) (by decide +kernel)
theorem k_356 : Cond.code y_T_putAll prog_8_method_9_code 2 none ∈ GW := gw_m 400 (by decide +kernel) (by decide +kernel)
theorem k_357 : Cond.methodLink "NameRules$Text" 27 y_T_putPart ∈ GW := gw_m 401 (by decide +kernel) (by decide +kernel)
theorem k_358 : Cond.instanceMethod y_T_putPart ∈ GW := gw_m 402 (by decide +kernel) (by decide +kernel)
theorem k_359 : Cond.selects "NameRules$Text" y_T_putPart y_T_putPart ∈ GW := gw_m 403 (by decide +kernel) (by decide +kernel)
theorem k_360 : Cond.code y_T_putPart prog_8_method_8_code 5 none ∈ GW := gw_m 404 (by decide +kernel) (by decide +kernel)
theorem k_361 : Cond.methodLink "NameRules$Text" 19 y_T_at ∈ GW := gw_m 405 (by decide +kernel) (by decide +kernel)
theorem k_362 : Cond.methodLink "NameRules$Text" 23 y_T_put ∈ GW := gw_m 406 (by decide +kernel) (by decide +kernel)
theorem k_363 : Cond.methodLink "NameRulesLaw" 115 y_L_expand ∈ GW := gw_m 407 (by decide +kernel) (by decide +kernel)
theorem k_364 : Cond.static y_L_expand ∈ GW := gw_m 408 (by decide +kernel) (by decide +kernel)
theorem k_365 : Cond.codeWith y_L_expand method_5_code 3 (some .int) [(0, 8, 11, 21), (0, 8, 14, 13), (0, 8, 17, 15)] ∈ GW := gw_m 409 (by decide +kernel) (by decide +kernel)
theorem k_366 : Cond.methodLink "NameRulesLaw" 23 y_C_expand ∈ GW := gw_m 410 (by decide +kernel) (by decide +kernel)
theorem k_367 : Cond.instanceMethod y_C_expand ∈ GW := gw_m 411 (by decide +kernel) (by decide +kernel)
theorem k_368 : Cond.selects "NameRules" y_C_expand y_C_expand ∈ GW := gw_m 412 (by decide +kernel) (by decide +kernel)
theorem k_369 : Cond.code y_C_expand prog_1_method_5_code 2 (some .int) ∈ GW := gw_m 413 (by decide +kernel) (by decide +kernel)
theorem k_370 : Cond.methodLink "NameRules" 123 y_C_buildFromTape ∈ GW := gw_m 414 (by decide +kernel) (by decide +kernel)
theorem k_372 : Cond.instanceMethod y_C_buildFromTape ∈ GW := gw_m 416 (by decide +kernel) (by decide +kernel)
theorem k_373 : Cond.code y_C_buildFromTape prog_1_method_33_code 4 none ∈ GW := gw_m 417 (by decide +kernel) (by decide +kernel)
theorem k_374 : Cond.methodLink "NameRules" 171 y_T_putPart ∈ GW := gw_m 418 (by decide +kernel) (by decide +kernel)
theorem k_375 : Cond.methodLink "NameRules" 314 y_T_firstPlaceOf ∈ GW := gw_m 419 (by decide +kernel) (by decide +kernel)
theorem k_376 : Cond.instanceMethod y_T_firstPlaceOf ∈ GW := gw_m 420 (by decide +kernel) (by decide +kernel)
theorem k_377 : Cond.selects "NameRules$Text" y_T_firstPlaceOf y_T_firstPlaceOf ∈ GW := gw_m 421 (by decide +kernel) (by decide +kernel)
theorem k_378 : Cond.code y_T_firstPlaceOf prog_8_method_11_code 3 (some .int) ∈ GW := gw_m 422 (by decide +kernel) (by decide +kernel)
theorem k_379 : Cond.methodLink "NameRules" 318 y_C_spaceOnTapeBefore ∈ GW := gw_m 423 (by decide +kernel) (by decide +kernel)
theorem k_381 : Cond.instanceMethod y_C_spaceOnTapeBefore ∈ GW := gw_m 425 (by decide +kernel) (by decide +kernel)
theorem k_382 : Cond.code y_C_spaceOnTapeBefore prog_1_method_34_code 3 (some .int) ∈ GW := gw_m 426 (by decide +kernel) (by decide +kernel)
theorem k_383 : Cond.methodLink "NameRules" 143 y_H_spaceOfShort ∈ GW := gw_m 427 (by decide +kernel) (by decide +kernel)
theorem k_384 : Cond.instanceMethod y_H_spaceOfShort ∈ GW := gw_m 428 (by decide +kernel) (by decide +kernel)
theorem k_385 : Cond.selects "NameRules$Shorts" y_H_spaceOfShort y_H_spaceOfShort ∈ GW := gw_m 429 (by decide +kernel) (by decide +kernel)
theorem k_386 : Cond.code y_H_spaceOfShort prog_5_method_4_code 2 (some .int) ∈ GW := gw_m 430 (by decide +kernel) (by decide +kernel)
theorem k_387 : Cond.methodLink "NameRules" 134 y_N_text ∈ GW := gw_m 431 (by decide +kernel) (by decide +kernel)
theorem k_388 : Cond.instanceMethod y_N_text ∈ GW := gw_m 432 (by decide +kernel) (by decide +kernel)
theorem k_389 : Cond.selects "NameRules$Names" y_N_text y_N_text ∈ GW := gw_m 433 (by decide +kernel) (by decide +kernel)
theorem k_390 : Cond.code y_N_text prog_2_method_5_code 2 (some (.object "NameRules$Text")) ∈ GW := gw_m 434 (by decide +kernel) (by decide +kernel)
theorem k_391 : Cond.methodLink "NameRules" 186 y_T_putAll ∈ GW := gw_m 435 (by decide +kernel) (by decide +kernel)
theorem k_393 : Cond.methodLink "NameRulesLaw" 118 y_L_prefix ∈ GW := gw_m 437 (by decide +kernel) (by decide +kernel)
theorem k_394 : Cond.static y_L_prefix ∈ GW := gw_m 438 (by decide +kernel) (by decide +kernel)
theorem k_395 : Cond.codeWith y_L_prefix method_6_code 5 (some .int) [(0, 17, 20, 30), (0, 17, 24, 13)] ∈ GW := gw_m 439 (by decide +kernel) (by decide +kernel)
theorem k_396 : Cond.classLink "NameRulesLaw" 30 "java/lang/IndexOutOfBoundsException" ∈ GW := gw_m 440 (by decide +kernel) (by decide +kernel)
theorem k_397 : Cond.methodLink "NameRulesLaw" 26 y_C_prefix ∈ GW := gw_m 441 (by decide +kernel) (by decide +kernel)
theorem k_398 : Cond.instanceMethod y_C_prefix ∈ GW := gw_m 442 (by decide +kernel) (by decide +kernel)
theorem k_399 : Cond.selects "NameRules" y_C_prefix y_C_prefix ∈ GW := gw_m 443 (by decide +kernel) (by decide +kernel)
theorem k_400 : Cond.code y_C_prefix prog_1_method_6_code 4 (some .boolean) ∈ GW := gw_m 444 (by decide +kernel) (by decide +kernel)
theorem k_401 : Cond.methodLink "NameRules" 131 y_C_requireName ∈ GW := gw_m 445 (by decide +kernel) (by decide +kernel)
theorem k_403 : Cond.instanceMethod y_C_requireName ∈ GW := gw_m 447 (by decide +kernel) (by decide +kernel)
theorem k_404 : Cond.code y_C_requireName prog_1_method_28_code 2 none ∈ GW := gw_m 448 (by decide +kernel) (by decide +kernel)
theorem k_405 : Cond.methodLink "NameRules" 299 y_N_has ∈ GW := gw_m 449 (by decide +kernel) (by decide +kernel)
theorem k_406 : Cond.instanceMethod y_N_has ∈ GW := gw_m 450 (by decide +kernel) (by decide +kernel)
theorem k_407 : Cond.selects "NameRules$Names" y_N_has y_N_has ∈ GW := gw_m 451 (by decide +kernel) (by decide +kernel)
theorem k_408 : Cond.code y_N_has prog_2_method_3_code 2 (some .boolean) ∈ GW := gw_m 452 (by decide +kernel) (by decide +kernel)
theorem k_409 : Cond.classLink "NameRules" 207 "java/lang/IndexOutOfBoundsException" ∈ GW := gw_m 453 (by decide +kernel) (by decide +kernel)
theorem k_410 : Cond.instantiable "java/lang/IndexOutOfBoundsException" 6 ∈ GW := gw_m 454 (by decide +kernel) (by decide +kernel)
theorem k_412 : Cond.selects "java/lang/IndexOutOfBoundsException" ⟨"java/lang/Throwable", "fillInStackTrace", "(I)Ljava/lang/Throwable;"⟩ ⟨"java/lang/Throwable", "fillInStackTrace", "(I)Ljava/lang/Throwable;"⟩ ∈ GW := gw_m 456 (by decide +kernel) (by decide +kernel)
theorem k_419 : Cond.methodLink "NameRules" 211 ⟨"java/lang/IndexOutOfBoundsException", "<init>", "(Ljava/lang/String;)V"⟩ ∈ GW := gw_m 463 (by decide +kernel) (by decide +kernel)
theorem k_420 : Cond.instanceMethod ⟨"java/lang/IndexOutOfBoundsException", "<init>", "(Ljava/lang/String;)V"⟩ ∈ GW := gw_m 464 (by decide +kernel) (by decide +kernel)
theorem k_421 : Cond.code ⟨"java/lang/IndexOutOfBoundsException", "<init>", "(Ljava/lang/String;)V"⟩ prog_14_method_2_code 2 none ∈ GW := gw_m 465 (by decide +kernel) (by decide +kernel)
theorem k_422 : Cond.methodLink "java/lang/IndexOutOfBoundsException" 7 ⟨"java/lang/RuntimeException", "<init>", "(Ljava/lang/String;)V"⟩ ∈ GW := gw_m 466 (by decide +kernel) (by decide +kernel)
theorem k_424 : Cond.superclass "java/lang/IndexOutOfBoundsException" "java/lang/RuntimeException" ∈ GW := gw_m 468 (by decide +kernel) (by decide +kernel)
theorem k_425 : Cond.methodLink "NameRules" 138 y_T_canBeShort ∈ GW := gw_m 469 (by decide +kernel) (by decide +kernel)
theorem k_426 : Cond.instanceMethod y_T_canBeShort ∈ GW := gw_m 470 (by decide +kernel) (by decide +kernel)
theorem k_427 : Cond.selects "NameRules$Text" y_T_canBeShort y_T_canBeShort ∈ GW := gw_m 471 (by decide +kernel) (by decide +kernel)
theorem k_428 : Cond.code y_T_canBeShort prog_8_method_15_code 2 (some .boolean) ∈ GW := gw_m 472 (by decide +kernel) (by decide +kernel)
theorem k_430 : Cond.static y_C_isSmallLetter ∈ GW := gw_m 474 (by decide +kernel) (by decide +kernel)
theorem k_431 : Cond.code y_C_isSmallLetter prog_1_method_36_code 1 (some .boolean) ∈ GW := gw_m 475 (by decide +kernel) (by decide +kernel)
theorem k_433 : Cond.static y_C_isDigit ∈ GW := gw_m 477 (by decide +kernel) (by decide +kernel)
theorem k_434 : Cond.code y_C_isDigit prog_1_method_39_code 1 (some .boolean) ∈ GW := gw_m 478 (by decide +kernel) (by decide +kernel)
theorem k_436 : Cond.methodLink "NameRules" 147 y_C_keepClash ∈ GW := gw_m 480 (by decide +kernel) (by decide +kernel)
theorem k_438 : Cond.instanceMethod y_C_keepClash ∈ GW := gw_m 482 (by decide +kernel) (by decide +kernel)
theorem k_439 : Cond.code y_C_keepClash prog_1_method_31_code 4 none ∈ GW := gw_m 483 (by decide +kernel) (by decide +kernel)
theorem k_440 : Cond.methodLink "NameRules" 151 y_H_add ∈ GW := gw_m 484 (by decide +kernel) (by decide +kernel)
theorem k_441 : Cond.instanceMethod y_H_add ∈ GW := gw_m 485 (by decide +kernel) (by decide +kernel)
theorem k_442 : Cond.selects "NameRules$Shorts" y_H_add y_H_add ∈ GW := gw_m 486 (by decide +kernel) (by decide +kernel)
theorem k_443 : Cond.code y_H_add prog_5_method_7_code 4 none ∈ GW := gw_m 487 (by decide +kernel) (by decide +kernel)
theorem k_444 : Cond.methodLink "NameRules$Shorts" 35 y_N_text ∈ GW := gw_m 488 (by decide +kernel) (by decide +kernel)
theorem k_445 : Cond.methodLink "NameRules$Shorts" 39 y_T_isBetterShortThan ∈ GW := gw_m 489 (by decide +kernel) (by decide +kernel)
theorem k_446 : Cond.instanceMethod y_T_isBetterShortThan ∈ GW := gw_m 490 (by decide +kernel) (by decide +kernel)
theorem k_447 : Cond.selects "NameRules$Text" y_T_isBetterShortThan y_T_isBetterShortThan ∈ GW := gw_m 491 (by decide +kernel) (by decide +kernel)
theorem k_448 : Cond.code y_T_isBetterShortThan prog_8_method_16_code 2 (some .boolean) ∈ GW := gw_m 492 (by decide +kernel) (by decide +kernel)
theorem k_449 : Cond.methodLink "NameRules$Text" 44 y_T_compareWith ∈ GW := gw_m 493 (by decide +kernel) (by decide +kernel)
theorem k_450 : Cond.methodLink "NameRulesLaw" 122 y_L_space ∈ GW := gw_m 494 (by decide +kernel) (by decide +kernel)
theorem k_451 : Cond.static y_L_space ∈ GW := gw_m 495 (by decide +kernel) (by decide +kernel)
theorem k_452 : Cond.codeWith y_L_space method_7_code 4 (some .int) [(0, 9, 12, 30)] ∈ GW := gw_m 496 (by decide +kernel) (by decide +kernel)
theorem k_453 : Cond.methodLink "NameRulesLaw" 32 y_C_space ∈ GW := gw_m 497 (by decide +kernel) (by decide +kernel)
theorem k_454 : Cond.instanceMethod y_C_space ∈ GW := gw_m 498 (by decide +kernel) (by decide +kernel)
theorem k_455 : Cond.selects "NameRules" y_C_space y_C_space ∈ GW := gw_m 499 (by decide +kernel) (by decide +kernel)
theorem k_456 : Cond.code y_C_space prog_1_method_7_code 2 (some .int) ∈ GW := gw_m 500 (by decide +kernel) (by decide +kernel)
theorem k_457 : Cond.methodLink "NameRules" 155 y_H_spaceOfName ∈ GW := gw_m 501 (by decide +kernel) (by decide +kernel)
theorem k_458 : Cond.instanceMethod y_H_spaceOfName ∈ GW := gw_m 502 (by decide +kernel) (by decide +kernel)
theorem k_459 : Cond.selects "NameRules$Shorts" y_H_spaceOfName y_H_spaceOfName ∈ GW := gw_m 503 (by decide +kernel) (by decide +kernel)
theorem k_460 : Cond.code y_H_spaceOfName prog_5_method_8_code 7 (some .int) ∈ GW := gw_m 504 (by decide +kernel) (by decide +kernel)
theorem k_461 : Cond.methodLink "NameRules$Shorts" 45 y_N_size ∈ GW := gw_m 505 (by decide +kernel) (by decide +kernel)
theorem k_462 : Cond.instanceMethod y_N_size ∈ GW := gw_m 506 (by decide +kernel) (by decide +kernel)
theorem k_463 : Cond.selects "NameRules$Names" y_N_size y_N_size ∈ GW := gw_m 507 (by decide +kernel) (by decide +kernel)
theorem k_464 : Cond.code y_N_size prog_2_method_2_code 1 (some .int) ∈ GW := gw_m 508 (by decide +kernel) (by decide +kernel)
theorem k_465 : Cond.methodLink "NameRules$Shorts" 48 y_T_length ∈ GW := gw_m 509 (by decide +kernel) (by decide +kernel)
theorem k_466 : Cond.methodLink "NameRules$Shorts" 51 y_T_goesOnBehind ∈ GW := gw_m 510 (by decide +kernel) (by decide +kernel)
theorem k_467 : Cond.instanceMethod y_T_goesOnBehind ∈ GW := gw_m 511 (by decide +kernel) (by decide +kernel)
theorem k_468 : Cond.selects "NameRules$Text" y_T_goesOnBehind y_T_goesOnBehind ∈ GW := gw_m 512 (by decide +kernel) (by decide +kernel)
theorem k_469 : Cond.code y_T_goesOnBehind prog_8_method_14_code 3 (some .boolean) ∈ GW := gw_m 513 (by decide +kernel) (by decide +kernel)
theorem k_470 : Cond.methodLink "NameRulesLaw" 125 y_L_best ∈ GW := gw_m 514 (by decide +kernel) (by decide +kernel)
theorem k_471 : Cond.static y_L_best ∈ GW := gw_m 515 (by decide +kernel) (by decide +kernel)
theorem k_472 : Cond.codeWith y_L_best method_8_code 4 (some .int) [(0, 9, 12, 30)] ∈ GW := gw_m 516 (by decide +kernel) (by decide +kernel)
theorem k_473 : Cond.methodLink "NameRulesLaw" 35 y_C_best ∈ GW := gw_m 517 (by decide +kernel) (by decide +kernel)
theorem k_474 : Cond.instanceMethod y_C_best ∈ GW := gw_m 518 (by decide +kernel) (by decide +kernel)
theorem k_475 : Cond.selects "NameRules" y_C_best y_C_best ∈ GW := gw_m 519 (by decide +kernel) (by decide +kernel)
theorem k_476 : Cond.code y_C_best prog_1_method_8_code 2 (some .int) ∈ GW := gw_m 520 (by decide +kernel) (by decide +kernel)
theorem k_477 : Cond.methodLink "NameRules" 158 y_H_bestOfSpace ∈ GW := gw_m 521 (by decide +kernel) (by decide +kernel)
theorem k_478 : Cond.instanceMethod y_H_bestOfSpace ∈ GW := gw_m 522 (by decide +kernel) (by decide +kernel)
theorem k_479 : Cond.selects "NameRules$Shorts" y_H_bestOfSpace y_H_bestOfSpace ∈ GW := gw_m 523 (by decide +kernel) (by decide +kernel)
theorem k_480 : Cond.code y_H_bestOfSpace prog_5_method_5_code 2 (some .int) ∈ GW := gw_m 524 (by decide +kernel) (by decide +kernel)
theorem k_481 : Cond.methodLink "NameRulesLaw" 128 y_L_propose ∈ GW := gw_m 525 (by decide +kernel) (by decide +kernel)
theorem k_482 : Cond.static y_L_propose ∈ GW := gw_m 526 (by decide +kernel) (by decide +kernel)
theorem k_483 : Cond.codeWith y_L_propose method_9_code 4 (some .int) [(0, 9, 12, 30)] ∈ GW := gw_m 527 (by decide +kernel) (by decide +kernel)
theorem k_484 : Cond.methodLink "NameRulesLaw" 38 y_C_propose ∈ GW := gw_m 528 (by decide +kernel) (by decide +kernel)
theorem k_485 : Cond.instanceMethod y_C_propose ∈ GW := gw_m 529 (by decide +kernel) (by decide +kernel)
theorem k_486 : Cond.selects "NameRules" y_C_propose y_C_propose ∈ GW := gw_m 530 (by decide +kernel) (by decide +kernel)
theorem k_487 : Cond.code y_C_propose prog_1_method_9_code 4 (some .int) ∈ GW := gw_m 531 (by decide +kernel) (by decide +kernel)
theorem k_488 : Cond.methodLink "NameRules" 161 y_C_buildLastLetters ∈ GW := gw_m 532 (by decide +kernel) (by decide +kernel)
theorem k_490 : Cond.instanceMethod y_C_buildLastLetters ∈ GW := gw_m 534 (by decide +kernel) (by decide +kernel)
theorem k_491 : Cond.code y_C_buildLastLetters prog_1_method_35_code 5 none ∈ GW := gw_m 535 (by decide +kernel) (by decide +kernel)
theorem k_492 : Cond.methodLink "NameRules" 321 y_C_isLetter ∈ GW := gw_m 536 (by decide +kernel) (by decide +kernel)
theorem k_493 : Cond.static y_C_isLetter ∈ GW := gw_m 537 (by decide +kernel) (by decide +kernel)
theorem k_494 : Cond.code y_C_isLetter prog_1_method_38_code 1 (some .boolean) ∈ GW := gw_m 538 (by decide +kernel) (by decide +kernel)
theorem k_495 : Cond.methodLink "NameRules" 329 y_C_isSmallLetter ∈ GW := gw_m 539 (by decide +kernel) (by decide +kernel)
theorem k_496 : Cond.methodLink "NameRules" 332 y_C_isGreatLetter ∈ GW := gw_m 540 (by decide +kernel) (by decide +kernel)
theorem k_497 : Cond.static y_C_isGreatLetter ∈ GW := gw_m 541 (by decide +kernel) (by decide +kernel)
theorem k_498 : Cond.code y_C_isGreatLetter prog_1_method_37_code 1 (some .boolean) ∈ GW := gw_m 542 (by decide +kernel) (by decide +kernel)
theorem k_499 : Cond.methodLink "NameRules" 325 y_C_small ∈ GW := gw_m 543 (by decide +kernel) (by decide +kernel)
theorem k_500 : Cond.static y_C_small ∈ GW := gw_m 544 (by decide +kernel) (by decide +kernel)
theorem k_501 : Cond.code y_C_small prog_1_method_40_code 1 (some .char) ∈ GW := gw_m 545 (by decide +kernel) (by decide +kernel)
theorem k_502 : Cond.methodLink "NameRules" 165 ⟨"java/lang/Math", "min", "(II)I"⟩ ∈ GW := gw_m 546 (by decide +kernel) (by decide +kernel)
theorem k_503 : Cond.methodLink "NameRules" 175 y_H_isShort ∈ GW := gw_m 547 (by decide +kernel) (by decide +kernel)
theorem k_504 : Cond.instanceMethod y_H_isShort ∈ GW := gw_m 548 (by decide +kernel) (by decide +kernel)
theorem k_505 : Cond.selects "NameRules$Shorts" y_H_isShort y_H_isShort ∈ GW := gw_m 549 (by decide +kernel) (by decide +kernel)
theorem k_506 : Cond.code y_H_isShort prog_5_method_6_code 3 (some .boolean) ∈ GW := gw_m 550 (by decide +kernel) (by decide +kernel)
theorem k_507 : Cond.methodLink "NameRules$Shorts" 29 y_N_find ∈ GW := gw_m 551 (by decide +kernel) (by decide +kernel)
theorem k_508 : Cond.methodLink "NameRules" 183 y_T_putNumber ∈ GW := gw_m 552 (by decide +kernel) (by decide +kernel)
theorem k_509 : Cond.instanceMethod y_T_putNumber ∈ GW := gw_m 553 (by decide +kernel) (by decide +kernel)
theorem k_510 : Cond.selects "NameRules$Text" y_T_putNumber y_T_putNumber ∈ GW := gw_m 554 (by decide +kernel) (by decide +kernel)
theorem k_511 : Cond.code y_T_putNumber prog_8_method_10_code 2 none ∈ GW := gw_m 555 (by decide +kernel) (by decide +kernel)
theorem k_512 : Cond.methodLink "NameRulesLaw" 131 y_L_print ∈ GW := gw_m 556 (by decide +kernel) (by decide +kernel)
theorem k_513 : Cond.static y_L_print ∈ GW := gw_m 557 (by decide +kernel) (by decide +kernel)
theorem k_514 : Cond.codeWith y_L_print method_10_code 4 (some .int) [(0, 9, 12, 30)] ∈ GW := gw_m 558 (by decide +kernel) (by decide +kernel)
theorem k_515 : Cond.methodLink "NameRulesLaw" 41 y_C_print ∈ GW := gw_m 559 (by decide +kernel) (by decide +kernel)
theorem k_516 : Cond.instanceMethod y_C_print ∈ GW := gw_m 560 (by decide +kernel) (by decide +kernel)
theorem k_517 : Cond.selects "NameRules" y_C_print y_C_print ∈ GW := gw_m 561 (by decide +kernel) (by decide +kernel)
theorem k_518 : Cond.code y_C_print prog_1_method_10_code 4 (some .int) ∈ GW := gw_m 562 (by decide +kernel) (by decide +kernel)
theorem k_519 : Cond.methodLink "NameRulesLaw" 139 y_L_row ∈ GW := gw_m 563 (by decide +kernel) (by decide +kernel)
theorem k_520 : Cond.static y_L_row ∈ GW := gw_m 564 (by decide +kernel) (by decide +kernel)
theorem k_521 : Cond.codeWith y_L_row method_11_code 6 (some .int) [(0, 12, 15, 30), (0, 12, 19, 21), (0, 12, 23, 15)] ∈ GW := gw_m 565 (by decide +kernel) (by decide +kernel)
theorem k_522 : Cond.methodLink "NameRulesLaw" 44 y_C_row ∈ GW := gw_m 566 (by decide +kernel) (by decide +kernel)
theorem k_523 : Cond.instanceMethod y_C_row ∈ GW := gw_m 567 (by decide +kernel) (by decide +kernel)
theorem k_524 : Cond.selects "NameRules" y_C_row y_C_row ∈ GW := gw_m 568 (by decide +kernel) (by decide +kernel)
theorem k_525 : Cond.code y_C_row prog_1_method_12_code 5 (some .int) ∈ GW := gw_m 569 (by decide +kernel) (by decide +kernel)
theorem k_527 : Cond.methodLink "NameRules" 194 y_W_rowOfTerm ∈ GW := gw_m 571 (by decide +kernel) (by decide +kernel)
theorem k_528 : Cond.instanceMethod y_W_rowOfTerm ∈ GW := gw_m 572 (by decide +kernel) (by decide +kernel)
theorem k_529 : Cond.selects "NameRules$Rows" y_W_rowOfTerm y_W_rowOfTerm ∈ GW := gw_m 573 (by decide +kernel) (by decide +kernel)
theorem k_530 : Cond.code y_W_rowOfTerm prog_4_method_6_code 3 (some .int) ∈ GW := gw_m 574 (by decide +kernel) (by decide +kernel)
theorem k_531 : Cond.methodLink "NameRules$Rows" 19 y_W_cell ∈ GW := gw_m 575 (by decide +kernel) (by decide +kernel)
theorem k_532 : Cond.instanceMethod y_W_cell ∈ GW := gw_m 576 (by decide +kernel) (by decide +kernel)
theorem k_533 : Cond.selects "NameRules$Rows" y_W_cell y_W_cell ∈ GW := gw_m 577 (by decide +kernel) (by decide +kernel)
theorem k_534 : Cond.code y_W_cell prog_4_method_5_code 3 (some .int) ∈ GW := gw_m 578 (by decide +kernel) (by decide +kernel)
theorem k_535 : Cond.methodLink "NameRules" 197 y_W_isFull ∈ GW := gw_m 579 (by decide +kernel) (by decide +kernel)
theorem k_536 : Cond.instanceMethod y_W_isFull ∈ GW := gw_m 580 (by decide +kernel) (by decide +kernel)
theorem k_537 : Cond.selects "NameRules$Rows" y_W_isFull y_W_isFull ∈ GW := gw_m 581 (by decide +kernel) (by decide +kernel)
theorem k_538 : Cond.code y_W_isFull prog_4_method_4_code 1 (some .boolean) ∈ GW := gw_m 582 (by decide +kernel) (by decide +kernel)
theorem k_540 : Cond.methodLink "NameRules" 200 y_W_add ∈ GW := gw_m 584 (by decide +kernel) (by decide +kernel)
theorem k_541 : Cond.instanceMethod y_W_add ∈ GW := gw_m 585 (by decide +kernel) (by decide +kernel)
theorem k_542 : Cond.selects "NameRules$Rows" y_W_add y_W_add ∈ GW := gw_m 586 (by decide +kernel) (by decide +kernel)
theorem k_543 : Cond.code y_W_add prog_4_method_7_code 5 (some .int) ∈ GW := gw_m 587 (by decide +kernel) (by decide +kernel)
theorem k_544 : Cond.methodLink "NameRulesLaw" 143 y_L_told ∈ GW := gw_m 588 (by decide +kernel) (by decide +kernel)
theorem k_545 : Cond.static y_L_told ∈ GW := gw_m 589 (by decide +kernel) (by decide +kernel)
theorem k_546 : Cond.codeWith y_L_told method_12_code 5 (some .int) [(0, 10, 13, 30), (0, 10, 17, 13)] ∈ GW := gw_m 590 (by decide +kernel) (by decide +kernel)
theorem k_547 : Cond.methodLink "NameRulesLaw" 48 y_C_told ∈ GW := gw_m 591 (by decide +kernel) (by decide +kernel)
theorem k_548 : Cond.instanceMethod y_C_told ∈ GW := gw_m 592 (by decide +kernel) (by decide +kernel)
theorem k_549 : Cond.selects "NameRules" y_C_told y_C_told ∈ GW := gw_m 593 (by decide +kernel) (by decide +kernel)
theorem k_550 : Cond.code y_C_told prog_1_method_13_code 3 (some .int) ∈ GW := gw_m 594 (by decide +kernel) (by decide +kernel)
theorem k_551 : Cond.methodLink "NameRules" 203 y_W_has ∈ GW := gw_m 595 (by decide +kernel) (by decide +kernel)
theorem k_552 : Cond.instanceMethod y_W_has ∈ GW := gw_m 596 (by decide +kernel) (by decide +kernel)
theorem k_553 : Cond.selects "NameRules$Rows" y_W_has y_W_has ∈ GW := gw_m 597 (by decide +kernel) (by decide +kernel)
theorem k_554 : Cond.code y_W_has prog_4_method_3_code 2 (some .boolean) ∈ GW := gw_m 598 (by decide +kernel) (by decide +kernel)
theorem k_557 : Cond.methodLink "NameRules" 214 y_W_cell ∈ GW := gw_m 601 (by decide +kernel) (by decide +kernel)
theorem k_558 : Cond.methodLink "NameRulesLaw" 146 y_L_document ∈ GW := gw_m 602 (by decide +kernel) (by decide +kernel)
theorem k_559 : Cond.static y_L_document ∈ GW := gw_m 603 (by decide +kernel) (by decide +kernel)
theorem k_560 : Cond.codeWith y_L_document method_13_code 5 (some .int) [(0, 10, 13, 30)] ∈ GW := gw_m 604 (by decide +kernel) (by decide +kernel)
theorem k_561 : Cond.methodLink "NameRulesLaw" 52 y_C_document ∈ GW := gw_m 605 (by decide +kernel) (by decide +kernel)
theorem k_562 : Cond.instanceMethod y_C_document ∈ GW := gw_m 606 (by decide +kernel) (by decide +kernel)
theorem k_563 : Cond.selects "NameRules" y_C_document y_C_document ∈ GW := gw_m 607 (by decide +kernel) (by decide +kernel)
theorem k_564 : Cond.code y_C_document prog_1_method_14_code 4 (some .int) ∈ GW := gw_m 608 (by decide +kernel) (by decide +kernel)
theorem k_565 : Cond.methodLink "NameRules" 217 y_C_requirePlace ∈ GW := gw_m 609 (by decide +kernel) (by decide +kernel)
theorem k_567 : Cond.instanceMethod y_C_requirePlace ∈ GW := gw_m 611 (by decide +kernel) (by decide +kernel)
theorem k_568 : Cond.code y_C_requirePlace prog_1_method_29_code 2 none ∈ GW := gw_m 612 (by decide +kernel) (by decide +kernel)
theorem k_570 : Cond.methodLink "NameRules" 220 y_W_size ∈ GW := gw_m 614 (by decide +kernel) (by decide +kernel)
theorem k_571 : Cond.instanceMethod y_W_size ∈ GW := gw_m 615 (by decide +kernel) (by decide +kernel)
theorem k_572 : Cond.selects "NameRules$Rows" y_W_size y_W_size ∈ GW := gw_m 616 (by decide +kernel) (by decide +kernel)
theorem k_573 : Cond.code y_W_size prog_4_method_2_code 1 (some .int) ∈ GW := gw_m 617 (by decide +kernel) (by decide +kernel)
theorem k_574 : Cond.methodLink "NameRules" 223 y_C_isInSpace ∈ GW := gw_m 618 (by decide +kernel) (by decide +kernel)
theorem k_576 : Cond.instanceMethod y_C_isInSpace ∈ GW := gw_m 620 (by decide +kernel) (by decide +kernel)
theorem k_577 : Cond.code y_C_isInSpace prog_1_method_45_code 3 (some .boolean) ∈ GW := gw_m 621 (by decide +kernel) (by decide +kernel)
theorem k_578 : Cond.methodLink "NameRules" 338 y_C_spaceOfTerm ∈ GW := gw_m 622 (by decide +kernel) (by decide +kernel)
theorem k_580 : Cond.instanceMethod y_C_spaceOfTerm ∈ GW := gw_m 624 (by decide +kernel) (by decide +kernel)
theorem k_581 : Cond.code y_C_spaceOfTerm prog_1_method_44_code 2 (some .int) ∈ GW := gw_m 625 (by decide +kernel) (by decide +kernel)
theorem k_582 : Cond.methodLink "NameRules" 227 y_C_rowsBefore ∈ GW := gw_m 626 (by decide +kernel) (by decide +kernel)
theorem k_584 : Cond.instanceMethod y_C_rowsBefore ∈ GW := gw_m 628 (by decide +kernel) (by decide +kernel)
theorem k_585 : Cond.code y_C_rowsBefore prog_1_method_46_code 6 (some .int) ∈ GW := gw_m 629 (by decide +kernel) (by decide +kernel)
theorem k_586 : Cond.methodLink "NameRules" 341 y_C_termText ∈ GW := gw_m 630 (by decide +kernel) (by decide +kernel)
theorem k_588 : Cond.instanceMethod y_C_termText ∈ GW := gw_m 632 (by decide +kernel) (by decide +kernel)
theorem k_589 : Cond.code y_C_termText prog_1_method_43_code 2 (some (.object "NameRules$Text")) ∈ GW := gw_m 633 (by decide +kernel) (by decide +kernel)
theorem k_590 : Cond.methodLink "NameRules" 344 y_T_compareWith ∈ GW := gw_m 634 (by decide +kernel) (by decide +kernel)
theorem k_591 : Cond.methodLink "NameRulesLaw" 149 y_L_use ∈ GW := gw_m 635 (by decide +kernel) (by decide +kernel)
theorem k_592 : Cond.static y_L_use ∈ GW := gw_m 636 (by decide +kernel) (by decide +kernel)
theorem k_593 : Cond.codeWith y_L_use method_14_code 4 (some .int) [(0, 9, 12, 30)] ∈ GW := gw_m 637 (by decide +kernel) (by decide +kernel)
theorem k_594 : Cond.methodLink "NameRulesLaw" 55 y_C_use ∈ GW := gw_m 638 (by decide +kernel) (by decide +kernel)
theorem k_595 : Cond.instanceMethod y_C_use ∈ GW := gw_m 639 (by decide +kernel) (by decide +kernel)
theorem k_596 : Cond.selects "NameRules" y_C_use y_C_use ∈ GW := gw_m 640 (by decide +kernel) (by decide +kernel)
theorem k_597 : Cond.code y_C_use prog_1_method_15_code 2 (some .int) ∈ GW := gw_m 641 (by decide +kernel) (by decide +kernel)
theorem k_598 : Cond.methodLink "NameRulesLaw" 152 y_L_used ∈ GW := gw_m 642 (by decide +kernel) (by decide +kernel)
theorem k_599 : Cond.static y_L_used ∈ GW := gw_m 643 (by decide +kernel) (by decide +kernel)
theorem k_600 : Cond.codeWith y_L_used method_15_code 4 (some .int) [(0, 9, 12, 30)] ∈ GW := gw_m 644 (by decide +kernel) (by decide +kernel)
theorem k_601 : Cond.methodLink "NameRulesLaw" 58 y_C_used ∈ GW := gw_m 645 (by decide +kernel) (by decide +kernel)
theorem k_602 : Cond.instanceMethod y_C_used ∈ GW := gw_m 646 (by decide +kernel) (by decide +kernel)
theorem k_603 : Cond.selects "NameRules" y_C_used y_C_used ∈ GW := gw_m 647 (by decide +kernel) (by decide +kernel)
theorem k_604 : Cond.code y_C_used prog_1_method_16_code 2 (some .int) ∈ GW := gw_m 648 (by decide +kernel) (by decide +kernel)
theorem k_605 : Cond.methodLink "NameRulesLaw" 155 y_L_unknown ∈ GW := gw_m 649 (by decide +kernel) (by decide +kernel)
theorem k_606 : Cond.static y_L_unknown ∈ GW := gw_m 650 (by decide +kernel) (by decide +kernel)
theorem k_607 : Cond.codeWith y_L_unknown method_16_code 4 (some .int) [(0, 9, 12, 30)] ∈ GW := gw_m 651 (by decide +kernel) (by decide +kernel)
theorem k_608 : Cond.methodLink "NameRulesLaw" 61 y_C_unknown ∈ GW := gw_m 652 (by decide +kernel) (by decide +kernel)
theorem k_609 : Cond.instanceMethod y_C_unknown ∈ GW := gw_m 653 (by decide +kernel) (by decide +kernel)
theorem k_610 : Cond.selects "NameRules" y_C_unknown y_C_unknown ∈ GW := gw_m 654 (by decide +kernel) (by decide +kernel)
theorem k_611 : Cond.code y_C_unknown prog_1_method_17_code 4 (some .int) ∈ GW := gw_m 655 (by decide +kernel) (by decide +kernel)
theorem k_612 : Cond.methodLink "NameRules" 230 y_C_markTermSpaces ∈ GW := gw_m 656 (by decide +kernel) (by decide +kernel)
theorem k_614 : Cond.instanceMethod y_C_markTermSpaces ∈ GW := gw_m 658 (by decide +kernel) (by decide +kernel)
theorem k_615 : Cond.code y_C_markTermSpaces prog_1_method_47_code 3 none ∈ GW := gw_m 659 (by decide +kernel) (by decide +kernel)
theorem k_616 : Cond.methodLink "NameRules" 233 y_N_size ∈ GW := gw_m 660 (by decide +kernel) (by decide +kernel)
theorem k_617 : Cond.methodLink "NameRules" 234 y_C_isUnknown ∈ GW := gw_m 661 (by decide +kernel) (by decide +kernel)
theorem k_619 : Cond.instanceMethod y_C_isUnknown ∈ GW := gw_m 663 (by decide +kernel) (by decide +kernel)
theorem k_620 : Cond.code y_C_isUnknown prog_1_method_48_code 3 (some .boolean) ∈ GW := gw_m 664 (by decide +kernel) (by decide +kernel)
theorem k_621 : Cond.methodLink "NameRulesLaw" 158 y_L_apart ∈ GW := gw_m 665 (by decide +kernel) (by decide +kernel)
theorem k_622 : Cond.static y_L_apart ∈ GW := gw_m 666 (by decide +kernel) (by decide +kernel)
theorem k_623 : Cond.codeWith y_L_apart method_17_code 5 (some .int) [(0, 10, 13, 30)] ∈ GW := gw_m 667 (by decide +kernel) (by decide +kernel)
theorem k_624 : Cond.methodLink "NameRulesLaw" 64 y_C_apart ∈ GW := gw_m 668 (by decide +kernel) (by decide +kernel)
theorem k_625 : Cond.instanceMethod y_C_apart ∈ GW := gw_m 669 (by decide +kernel) (by decide +kernel)
theorem k_626 : Cond.selects "NameRules" y_C_apart y_C_apart ∈ GW := gw_m 670 (by decide +kernel) (by decide +kernel)
theorem k_627 : Cond.code y_C_apart prog_1_method_18_code 3 (some .int) ∈ GW := gw_m 671 (by decide +kernel) (by decide +kernel)
theorem k_628 : Cond.methodLink "NameRules" 237 y_E_between ∈ GW := gw_m 672 (by decide +kernel) (by decide +kernel)
theorem k_629 : Cond.instanceMethod y_E_between ∈ GW := gw_m 673 (by decide +kernel) (by decide +kernel)
theorem k_630 : Cond.selects "NameRules$Steps" y_E_between y_E_between ∈ GW := gw_m 674 (by decide +kernel) (by decide +kernel)
theorem k_631 : Cond.code y_E_between prog_7_method_2_code 8 (some .int) ∈ GW := gw_m 675 (by decide +kernel) (by decide +kernel)
theorem k_632 : Cond.methodLink "NameRules$Steps" 15 y_T_length ∈ GW := gw_m 676 (by decide +kernel) (by decide +kernel)
theorem k_633 : Cond.methodLink "NameRules$Steps" 21 ⟨"java/lang/Math", "min", "(II)I"⟩ ∈ GW := gw_m 677 (by decide +kernel) (by decide +kernel)
theorem k_634 : Cond.methodLink "NameRules$Steps" 27 y_T_at ∈ GW := gw_m 678 (by decide +kernel) (by decide +kernel)
theorem k_635 : Cond.methodLink "NameRulesLaw" 161 y_L_near ∈ GW := gw_m 679 (by decide +kernel) (by decide +kernel)
theorem k_636 : Cond.static y_L_near ∈ GW := gw_m 680 (by decide +kernel) (by decide +kernel)
theorem k_637 : Cond.codeWith y_L_near method_18_code 5 (some .int) [(0, 10, 13, 30)] ∈ GW := gw_m 681 (by decide +kernel) (by decide +kernel)
theorem k_638 : Cond.methodLink "NameRulesLaw" 67 y_C_near ∈ GW := gw_m 682 (by decide +kernel) (by decide +kernel)
theorem k_639 : Cond.instanceMethod y_C_near ∈ GW := gw_m 683 (by decide +kernel) (by decide +kernel)
theorem k_640 : Cond.selects "NameRules" y_C_near y_C_near ∈ GW := gw_m 684 (by decide +kernel) (by decide +kernel)
theorem k_641 : Cond.code y_C_near prog_1_method_19_code 4 (some .int) ∈ GW := gw_m 685 (by decide +kernel) (by decide +kernel)
theorem k_642 : Cond.methodLink "NameRules" 241 y_C_measureTerms ∈ GW := gw_m 686 (by decide +kernel) (by decide +kernel)
theorem k_644 : Cond.instanceMethod y_C_measureTerms ∈ GW := gw_m 688 (by decide +kernel) (by decide +kernel)
theorem k_645 : Cond.code y_C_measureTerms prog_1_method_50_code 4 none ∈ GW := gw_m 689 (by decide +kernel) (by decide +kernel)
theorem k_646 : Cond.methodLink "NameRules" 244 y_C_rowsNearer ∈ GW := gw_m 690 (by decide +kernel) (by decide +kernel)
theorem k_648 : Cond.instanceMethod y_C_rowsNearer ∈ GW := gw_m 692 (by decide +kernel) (by decide +kernel)
theorem k_649 : Cond.code y_C_rowsNearer prog_1_method_51_code 5 (some .int) ∈ GW := gw_m 693 (by decide +kernel) (by decide +kernel)
theorem k_650 : Cond.methodLink "NameRulesLaw" 164 y_L_alias ∈ GW := gw_m 694 (by decide +kernel) (by decide +kernel)
theorem k_651 : Cond.static y_L_alias ∈ GW := gw_m 695 (by decide +kernel) (by decide +kernel)
theorem k_652 : Cond.codeWith y_L_alias method_19_code 5 (some .int) [(0, 17, 20, 30)] ∈ GW := gw_m 696 (by decide +kernel) (by decide +kernel)
theorem k_653 : Cond.methodLink "NameRulesLaw" 70 y_C_alias ∈ GW := gw_m 697 (by decide +kernel) (by decide +kernel)
theorem k_654 : Cond.instanceMethod y_C_alias ∈ GW := gw_m 698 (by decide +kernel) (by decide +kernel)
theorem k_655 : Cond.selects "NameRules" y_C_alias y_C_alias ∈ GW := gw_m 699 (by decide +kernel) (by decide +kernel)
theorem k_656 : Cond.code y_C_alias prog_1_method_20_code 3 (some .boolean) ∈ GW := gw_m 700 (by decide +kernel) (by decide +kernel)
theorem k_657 : Cond.methodLink "NameRules" 247 y_G_leads ∈ GW := gw_m 701 (by decide +kernel) (by decide +kernel)
theorem k_658 : Cond.instanceMethod y_G_leads ∈ GW := gw_m 702 (by decide +kernel) (by decide +kernel)
theorem k_659 : Cond.selects "NameRules$Standing" y_G_leads y_G_leads ∈ GW := gw_m 703 (by decide +kernel) (by decide +kernel)
theorem k_660 : Cond.code y_G_leads prog_6_method_5_code 5 (some .boolean) ∈ GW := gw_m 704 (by decide +kernel) (by decide +kernel)
theorem k_661 : Cond.methodLink "NameRules" 250 y_G_set ∈ GW := gw_m 705 (by decide +kernel) (by decide +kernel)
theorem k_662 : Cond.instanceMethod y_G_set ∈ GW := gw_m 706 (by decide +kernel) (by decide +kernel)
theorem k_663 : Cond.selects "NameRules$Standing" y_G_set y_G_set ∈ GW := gw_m 707 (by decide +kernel) (by decide +kernel)
theorem k_664 : Cond.code y_G_set prog_6_method_3_code 3 none ∈ GW := gw_m 708 (by decide +kernel) (by decide +kernel)
theorem k_665 : Cond.methodLink "NameRulesLaw" 167 y_L_meaning ∈ GW := gw_m 709 (by decide +kernel) (by decide +kernel)
theorem k_666 : Cond.static y_L_meaning ∈ GW := gw_m 710 (by decide +kernel) (by decide +kernel)
theorem k_667 : Cond.codeWith y_L_meaning method_20_code 4 (some .int) [(0, 9, 12, 30)] ∈ GW := gw_m 711 (by decide +kernel) (by decide +kernel)
theorem k_668 : Cond.methodLink "NameRulesLaw" 73 y_C_meaning ∈ GW := gw_m 712 (by decide +kernel) (by decide +kernel)
theorem k_669 : Cond.instanceMethod y_C_meaning ∈ GW := gw_m 713 (by decide +kernel) (by decide +kernel)
theorem k_670 : Cond.selects "NameRules" y_C_meaning y_C_meaning ∈ GW := gw_m 714 (by decide +kernel) (by decide +kernel)
theorem k_671 : Cond.code y_C_meaning prog_1_method_21_code 2 (some .int) ∈ GW := gw_m 715 (by decide +kernel) (by decide +kernel)
theorem k_672 : Cond.methodLink "NameRules" 253 y_G_end ∈ GW := gw_m 716 (by decide +kernel) (by decide +kernel)
theorem k_673 : Cond.instanceMethod y_G_end ∈ GW := gw_m 717 (by decide +kernel) (by decide +kernel)
theorem k_674 : Cond.selects "NameRules$Standing" y_G_end y_G_end ∈ GW := gw_m 718 (by decide +kernel) (by decide +kernel)
theorem k_675 : Cond.code y_G_end prog_6_method_4_code 4 (some .int) ∈ GW := gw_m 719 (by decide +kernel) (by decide +kernel)
theorem k_676 : Cond.methodLink "NameRulesLaw" 170 y_L_join ∈ GW := gw_m 720 (by decide +kernel) (by decide +kernel)
theorem k_677 : Cond.static y_L_join ∈ GW := gw_m 721 (by decide +kernel) (by decide +kernel)
theorem k_678 : Cond.codeWith y_L_join method_21_code 6 (some .int) [(0, 12, 15, 30), (0, 12, 19, 13), (0, 12, 23, 15)] ∈ GW := gw_m 722 (by decide +kernel) (by decide +kernel)
theorem k_679 : Cond.methodLink "NameRulesLaw" 76 y_C_join ∈ GW := gw_m 723 (by decide +kernel) (by decide +kernel)
theorem k_680 : Cond.instanceMethod y_C_join ∈ GW := gw_m 724 (by decide +kernel) (by decide +kernel)
theorem k_681 : Cond.selects "NameRules" y_C_join y_C_join ∈ GW := gw_m 725 (by decide +kernel) (by decide +kernel)
theorem k_682 : Cond.code y_C_join prog_1_method_22_code 4 (some .int) ∈ GW := gw_m 726 (by decide +kernel) (by decide +kernel)
theorem k_684 : Cond.methodLink "NameRules" 258 y_C_buildBesides ∈ GW := gw_m 728 (by decide +kernel) (by decide +kernel)
theorem k_686 : Cond.instanceMethod y_C_buildBesides ∈ GW := gw_m 730 (by decide +kernel) (by decide +kernel)
theorem k_687 : Cond.code y_C_buildBesides prog_1_method_41_code 3 none ∈ GW := gw_m 731 (by decide +kernel) (by decide +kernel)
theorem k_688 : Cond.methodLink "NameRules" 335 y_T_lastPlaceOf ∈ GW := gw_m 732 (by decide +kernel) (by decide +kernel)
theorem k_689 : Cond.instanceMethod y_T_lastPlaceOf ∈ GW := gw_m 733 (by decide +kernel) (by decide +kernel)
theorem k_690 : Cond.selects "NameRules$Text" y_T_lastPlaceOf y_T_lastPlaceOf ∈ GW := gw_m 734 (by decide +kernel) (by decide +kernel)
theorem k_691 : Cond.code y_T_lastPlaceOf prog_8_method_12_code 3 (some .int) ∈ GW := gw_m 735 (by decide +kernel) (by decide +kernel)
theorem k_692 : Cond.methodLink "NameRules" 262 y_C_buildWithin ∈ GW := gw_m 736 (by decide +kernel) (by decide +kernel)
theorem k_694 : Cond.instanceMethod y_C_buildWithin ∈ GW := gw_m 738 (by decide +kernel) (by decide +kernel)
theorem k_695 : Cond.code y_C_buildWithin prog_1_method_42_code 4 none ∈ GW := gw_m 739 (by decide +kernel) (by decide +kernel)
theorem k_696 : Cond.methodLink "NameRulesLaw" 173 y_L_rename ∈ GW := gw_m 740 (by decide +kernel) (by decide +kernel)
theorem k_697 : Cond.static y_L_rename ∈ GW := gw_m 741 (by decide +kernel) (by decide +kernel)
theorem k_698 : Cond.codeWith y_L_rename method_22_code 5 (some .int) [(0, 10, 13, 30), (0, 10, 17, 13), (0, 10, 21, 15)] ∈ GW := gw_m 742 (by decide +kernel) (by decide +kernel)
theorem k_699 : Cond.methodLink "NameRulesLaw" 79 y_C_rename ∈ GW := gw_m 743 (by decide +kernel) (by decide +kernel)
theorem k_700 : Cond.instanceMethod y_C_rename ∈ GW := gw_m 744 (by decide +kernel) (by decide +kernel)
theorem k_701 : Cond.selects "NameRules" y_C_rename y_C_rename ∈ GW := gw_m 745 (by decide +kernel) (by decide +kernel)
theorem k_702 : Cond.code y_C_rename prog_1_method_23_code 3 (some .int) ∈ GW := gw_m 746 (by decide +kernel) (by decide +kernel)
theorem k_704 : Cond.methodLink "NameRules" 267 y_C_renameClashes ∈ GW := gw_m 748 (by decide +kernel) (by decide +kernel)
theorem k_706 : Cond.instanceMethod y_C_renameClashes ∈ GW := gw_m 750 (by decide +kernel) (by decide +kernel)
theorem k_707 : Cond.code y_C_renameClashes prog_1_method_52_code 5 (some .boolean) ∈ GW := gw_m 751 (by decide +kernel) (by decide +kernel)
theorem k_708 : Cond.methodLink "NameRules" 347 y_G_next ∈ GW := gw_m 752 (by decide +kernel) (by decide +kernel)
theorem k_709 : Cond.instanceMethod y_G_next ∈ GW := gw_m 753 (by decide +kernel) (by decide +kernel)
theorem k_710 : Cond.selects "NameRules$Standing" y_G_next y_G_next ∈ GW := gw_m 754 (by decide +kernel) (by decide +kernel)
theorem k_711 : Cond.code y_G_next prog_6_method_2_code 2 (some .int) ∈ GW := gw_m 755 (by decide +kernel) (by decide +kernel)
theorem k_712 : Cond.methodLink "NameRules" 270 y_R_isFull ∈ GW := gw_m 756 (by decide +kernel) (by decide +kernel)
theorem k_713 : Cond.instanceMethod y_R_isFull ∈ GW := gw_m 757 (by decide +kernel) (by decide +kernel)
theorem k_714 : Cond.selects "NameRules$Renames" y_R_isFull y_R_isFull ∈ GW := gw_m 758 (by decide +kernel) (by decide +kernel)
theorem k_715 : Cond.code y_R_isFull prog_3_method_3_code 1 (some .boolean) ∈ GW := gw_m 759 (by decide +kernel) (by decide +kernel)
theorem k_717 : Cond.methodLink "NameRules" 273 y_R_add ∈ GW := gw_m 761 (by decide +kernel) (by decide +kernel)
theorem k_718 : Cond.instanceMethod y_R_add ∈ GW := gw_m 762 (by decide +kernel) (by decide +kernel)
theorem k_719 : Cond.selects "NameRules$Renames" y_R_add y_R_add ∈ GW := gw_m 763 (by decide +kernel) (by decide +kernel)
theorem k_720 : Cond.code y_R_add prog_3_method_4_code 3 none ∈ GW := gw_m 764 (by decide +kernel) (by decide +kernel)
theorem k_721 : Cond.methodLink "NameRules" 274 y_W_replace ∈ GW := gw_m 765 (by decide +kernel) (by decide +kernel)
theorem k_722 : Cond.instanceMethod y_W_replace ∈ GW := gw_m 766 (by decide +kernel) (by decide +kernel)
theorem k_723 : Cond.selects "NameRules$Rows" y_W_replace y_W_replace ∈ GW := gw_m 767 (by decide +kernel) (by decide +kernel)
theorem k_724 : Cond.code y_W_replace prog_4_method_8_code 5 (some .int) ∈ GW := gw_m 768 (by decide +kernel) (by decide +kernel)
theorem k_725 : Cond.methodLink "NameRules" 277 y_G_replace ∈ GW := gw_m 769 (by decide +kernel) (by decide +kernel)
theorem k_726 : Cond.instanceMethod y_G_replace ∈ GW := gw_m 770 (by decide +kernel) (by decide +kernel)
theorem k_727 : Cond.selects "NameRules$Standing" y_G_replace y_G_replace ∈ GW := gw_m 771 (by decide +kernel) (by decide +kernel)
theorem k_728 : Cond.code y_G_replace prog_6_method_6_code 5 (some .int) ∈ GW := gw_m 772 (by decide +kernel) (by decide +kernel)
theorem k_729 : Cond.methodLink "NameRules" 278 y_C_moveUses ∈ GW := gw_m 773 (by decide +kernel) (by decide +kernel)
theorem k_731 : Cond.instanceMethod y_C_moveUses ∈ GW := gw_m 775 (by decide +kernel) (by decide +kernel)
theorem k_732 : Cond.code y_C_moveUses prog_1_method_53_code 3 (some .int) ∈ GW := gw_m 776 (by decide +kernel) (by decide +kernel)
theorem k_733 : Cond.methodLink "NameRulesLaw" 176 y_L_now ∈ GW := gw_m 777 (by decide +kernel) (by decide +kernel)
theorem k_734 : Cond.static y_L_now ∈ GW := gw_m 778 (by decide +kernel) (by decide +kernel)
theorem k_735 : Cond.codeWith y_L_now method_23_code 4 (some .int) [(0, 9, 12, 30)] ∈ GW := gw_m 779 (by decide +kernel) (by decide +kernel)
theorem k_736 : Cond.methodLink "NameRulesLaw" 82 y_C_now ∈ GW := gw_m 780 (by decide +kernel) (by decide +kernel)
theorem k_737 : Cond.instanceMethod y_C_now ∈ GW := gw_m 781 (by decide +kernel) (by decide +kernel)
theorem k_738 : Cond.selects "NameRules" y_C_now y_C_now ∈ GW := gw_m 782 (by decide +kernel) (by decide +kernel)
theorem k_739 : Cond.code y_C_now prog_1_method_24_code 2 (some .int) ∈ GW := gw_m 783 (by decide +kernel) (by decide +kernel)
theorem k_740 : Cond.methodLink "NameRules" 281 y_R_forward ∈ GW := gw_m 784 (by decide +kernel) (by decide +kernel)
theorem k_741 : Cond.instanceMethod y_R_forward ∈ GW := gw_m 785 (by decide +kernel) (by decide +kernel)
theorem k_742 : Cond.selects "NameRules$Renames" y_R_forward y_R_forward ∈ GW := gw_m 786 (by decide +kernel) (by decide +kernel)
theorem k_743 : Cond.code y_R_forward prog_3_method_5_code 4 (some .int) ∈ GW := gw_m 787 (by decide +kernel) (by decide +kernel)
theorem k_744 : Cond.methodLink "NameRulesLaw" 179 y_L_was ∈ GW := gw_m 788 (by decide +kernel) (by decide +kernel)
theorem k_745 : Cond.static y_L_was ∈ GW := gw_m 789 (by decide +kernel) (by decide +kernel)
theorem k_746 : Cond.codeWith y_L_was method_24_code 4 (some .int) [(0, 9, 12, 30)] ∈ GW := gw_m 790 (by decide +kernel) (by decide +kernel)
theorem k_747 : Cond.methodLink "NameRulesLaw" 85 y_C_was ∈ GW := gw_m 791 (by decide +kernel) (by decide +kernel)
theorem k_748 : Cond.instanceMethod y_C_was ∈ GW := gw_m 792 (by decide +kernel) (by decide +kernel)
theorem k_749 : Cond.selects "NameRules" y_C_was y_C_was ∈ GW := gw_m 793 (by decide +kernel) (by decide +kernel)
theorem k_750 : Cond.code y_C_was prog_1_method_25_code 2 (some .int) ∈ GW := gw_m 794 (by decide +kernel) (by decide +kernel)
theorem k_751 : Cond.methodLink "NameRules" 284 y_R_back ∈ GW := gw_m 795 (by decide +kernel) (by decide +kernel)
theorem k_752 : Cond.instanceMethod y_R_back ∈ GW := gw_m 796 (by decide +kernel) (by decide +kernel)
theorem k_753 : Cond.selects "NameRules$Renames" y_R_back y_R_back ∈ GW := gw_m 797 (by decide +kernel) (by decide +kernel)
theorem k_754 : Cond.code y_R_back prog_3_method_6_code 4 (some .int) ∈ GW := gw_m 798 (by decide +kernel) (by decide +kernel)
theorem k_755 : Cond.methodLink "NameRulesLaw" 182 y_L_clash ∈ GW := gw_m 799 (by decide +kernel) (by decide +kernel)
theorem k_756 : Cond.static y_L_clash ∈ GW := gw_m 800 (by decide +kernel) (by decide +kernel)
theorem k_757 : Cond.codeWith y_L_clash method_25_code 4 (some .int) [(0, 9, 12, 13)] ∈ GW := gw_m 801 (by decide +kernel) (by decide +kernel)
theorem k_758 : Cond.methodLink "NameRulesLaw" 88 y_C_clash ∈ GW := gw_m 802 (by decide +kernel) (by decide +kernel)
theorem k_759 : Cond.instanceMethod y_C_clash ∈ GW := gw_m 803 (by decide +kernel) (by decide +kernel)
theorem k_760 : Cond.selects "NameRules" y_C_clash y_C_clash ∈ GW := gw_m 804 (by decide +kernel) (by decide +kernel)
theorem k_761 : Cond.code y_C_clash prog_1_method_26_code 2 (some .int) ∈ GW := gw_m 805 (by decide +kernel) (by decide +kernel)
theorem k_763 : Cond.methodLink "NameRulesLaw" 185 y_L_count ∈ GW := gw_m 807 (by decide +kernel) (by decide +kernel)
theorem k_764 : Cond.static y_L_count ∈ GW := gw_m 808 (by decide +kernel) (by decide +kernel)
theorem k_765 : Cond.codeWith y_L_count method_26_code 4 (some .int) [(0, 9, 12, 13)] ∈ GW := gw_m 809 (by decide +kernel) (by decide +kernel)
theorem k_766 : Cond.methodLink "NameRulesLaw" 91 y_C_count ∈ GW := gw_m 810 (by decide +kernel) (by decide +kernel)
theorem k_767 : Cond.instanceMethod y_C_count ∈ GW := gw_m 811 (by decide +kernel) (by decide +kernel)
theorem k_768 : Cond.selects "NameRules" y_C_count y_C_count ∈ GW := gw_m 812 (by decide +kernel) (by decide +kernel)
theorem k_769 : Cond.code y_C_count prog_1_method_27_code 2 (some .int) ∈ GW := gw_m 813 (by decide +kernel) (by decide +kernel)
theorem k_770 : Cond.methodLink "NameRules" 289 y_H_spaces ∈ GW := gw_m 814 (by decide +kernel) (by decide +kernel)
theorem k_771 : Cond.instanceMethod y_H_spaces ∈ GW := gw_m 815 (by decide +kernel) (by decide +kernel)
theorem k_772 : Cond.selects "NameRules$Shorts" y_H_spaces y_H_spaces ∈ GW := gw_m 816 (by decide +kernel) (by decide +kernel)
theorem k_773 : Cond.code y_H_spaces prog_5_method_3_code 1 (some .int) ∈ GW := gw_m 817 (by decide +kernel) (by decide +kernel)
theorem k_774 : Cond.methodLink "NameRules" 292 y_H_size ∈ GW := gw_m 818 (by decide +kernel) (by decide +kernel)
theorem k_775 : Cond.instanceMethod y_H_size ∈ GW := gw_m 819 (by decide +kernel) (by decide +kernel)
theorem k_776 : Cond.selects "NameRules$Shorts" y_H_size y_H_size ∈ GW := gw_m 820 (by decide +kernel) (by decide +kernel)
theorem k_777 : Cond.code y_H_size prog_5_method_2_code 1 (some .int) ∈ GW := gw_m 821 (by decide +kernel) (by decide +kernel)
theorem k_778 : Cond.methodLink "NameRules" 293 y_R_size ∈ GW := gw_m 822 (by decide +kernel) (by decide +kernel)
theorem k_779 : Cond.instanceMethod y_R_size ∈ GW := gw_m 823 (by decide +kernel) (by decide +kernel)
theorem k_780 : Cond.selects "NameRules$Renames" y_R_size y_R_size ∈ GW := gw_m 824 (by decide +kernel) (by decide +kernel)
theorem k_781 : Cond.code y_R_size prog_3_method_2_code 1 (some .int) ∈ GW := gw_m 825 (by decide +kernel) (by decide +kernel)
theorem k_782 : Cond.methodLink "NameRules" 294 y_C_unknownNames ∈ GW := gw_m 826 (by decide +kernel) (by decide +kernel)
theorem k_784 : Cond.instanceMethod y_C_unknownNames ∈ GW := gw_m 828 (by decide +kernel) (by decide +kernel)
theorem k_785 : Cond.code y_C_unknownNames prog_1_method_49_code 3 (some .int) ∈ GW := gw_m 829 (by decide +kernel) (by decide +kernel)
theorem k_787 : Cond.classLink "NameRulesLaw" 95 "NameRulesModel" ∈ GW := gw_m 831 (by decide +kernel) (by decide +kernel)
theorem k_788 : Cond.instantiable "NameRulesModel" 19 ∈ GW := gw_m 832 (by decide +kernel) (by decide +kernel)
theorem k_789 : Cond.methodLink "NameRulesLaw" 97 y_M_init ∈ GW := gw_m 833 (by decide +kernel) (by decide +kernel)
theorem k_790 : Cond.instanceMethod y_M_init ∈ GW := gw_m 834 (by decide +kernel) (by decide +kernel)
theorem k_791 : Cond.code y_M_init prog_10_method_1_code 1 none ∈ GW := gw_m 835 (by decide +kernel) (by decide +kernel)
theorem k_792 : Cond.methodLink "NameRulesModel" 1 objectInit ∈ GW := gw_m 836 (by decide +kernel) (by decide +kernel)
theorem k_793 : Cond.fieldLink "NameRulesModel" 47 "NameRulesModel" "thrown" "I" ∈ GW := gw_m 837 (by decide +kernel) (by decide +kernel)
theorem k_794 : Cond.fieldLink "NameRulesModel" 7 "NameRulesModel" "tape" "[B" ∈ GW := gw_m 838 (by decide +kernel) (by decide +kernel)
theorem k_795 : Cond.fieldLink "NameRulesModel" 54 "NameRulesModel" "taped" "I" ∈ GW := gw_m 839 (by decide +kernel) (by decide +kernel)
theorem k_796 : Cond.fieldLink "NameRulesModel" 13 "NameRulesModel" "names" "[B" ∈ GW := gw_m 840 (by decide +kernel) (by decide +kernel)
theorem k_797 : Cond.fieldLink "NameRulesModel" 16 "NameRulesModel" "sizes" "[I" ∈ GW := gw_m 841 (by decide +kernel) (by decide +kernel)
theorem k_798 : Cond.fieldLink "NameRulesModel" 51 "NameRulesModel" "many" "I" ∈ GW := gw_m 842 (by decide +kernel) (by decide +kernel)
theorem k_799 : Cond.fieldLink "NameRulesModel" 20 "NameRulesModel" "spaceOfShort" "[I" ∈ GW := gw_m 843 (by decide +kernel) (by decide +kernel)
theorem k_800 : Cond.fieldLink "NameRulesModel" 23 "NameRulesModel" "uses" "[I" ∈ GW := gw_m 844 (by decide +kernel) (by decide +kernel)
theorem k_801 : Cond.fieldLink "NameRulesModel" 26 "NameRulesModel" "stands" "[I" ∈ GW := gw_m 845 (by decide +kernel) (by decide +kernel)
theorem k_802 : Cond.fieldLink "NameRulesModel" 29 "NameRulesModel" "rows" "[I" ∈ GW := gw_m 846 (by decide +kernel) (by decide +kernel)
theorem k_803 : Cond.fieldLink "NameRulesModel" 125 "NameRulesModel" "rowCount" "I" ∈ GW := gw_m 847 (by decide +kernel) (by decide +kernel)
theorem k_804 : Cond.fieldLink "NameRulesModel" 32 "NameRulesModel" "renames" "[I" ∈ GW := gw_m 848 (by decide +kernel) (by decide +kernel)
theorem k_805 : Cond.fieldLink "NameRulesModel" 143 "NameRulesModel" "renameCount" "I" ∈ GW := gw_m 849 (by decide +kernel) (by decide +kernel)
theorem k_806 : Cond.fieldLink "NameRulesModel" 35 "NameRulesModel" "shown" "[B" ∈ GW := gw_m 850 (by decide +kernel) (by decide +kernel)
theorem k_807 : Cond.fieldLink "NameRulesModel" 122 "NameRulesModel" "shownCount" "I" ∈ GW := gw_m 851 (by decide +kernel) (by decide +kernel)
theorem k_808 : Cond.fieldLink "NameRulesModel" 38 "NameRulesModel" "clash" "[I" ∈ GW := gw_m 852 (by decide +kernel) (by decide +kernel)
theorem k_809 : Cond.fieldLink "NameRulesModel" 41 "NameRulesModel" "made" "[B" ∈ GW := gw_m 853 (by decide +kernel) (by decide +kernel)
theorem k_810 : Cond.fieldLink "NameRulesModel" 61 "NameRulesModel" "madeSize" "I" ∈ GW := gw_m 854 (by decide +kernel) (by decide +kernel)
theorem k_811 : Cond.fieldLink "NameRulesModel" 44 "NameRulesModel" "steps" "[I" ∈ GW := gw_m 855 (by decide +kernel) (by decide +kernel)
theorem k_850 : Cond.superclass "NameRulesModel" "java/lang/Object" ∈ GW := gw_m 894 (by decide +kernel) (by decide +kernel)
theorem k_851 : Cond.methodLink "NameRulesLaw" 104 y_M_thrown ∈ GW := gw_m 895 (by decide +kernel) (by decide +kernel)
theorem k_852 : Cond.instanceMethod y_M_thrown ∈ GW := gw_m 896 (by decide +kernel) (by decide +kernel)
theorem k_853 : Cond.selects "NameRulesModel" y_M_thrown y_M_thrown ∈ GW := gw_m 897 (by decide +kernel) (by decide +kernel)
theorem k_854 : Cond.code y_M_thrown prog_10_method_2_code 1 (some .int) ∈ GW := gw_m 898 (by decide +kernel) (by decide +kernel)
theorem k_855 : Cond.methodLink "NameRulesLaw" 103 y_M_type ∈ GW := gw_m 899 (by decide +kernel) (by decide +kernel)
theorem k_856 : Cond.instanceMethod y_M_type ∈ GW := gw_m 900 (by decide +kernel) (by decide +kernel)
theorem k_857 : Cond.selects "NameRulesModel" y_M_type y_M_type ∈ GW := gw_m 901 (by decide +kernel) (by decide +kernel)
theorem k_858 : Cond.code y_M_type prog_10_method_7_code 2 (some .int) ∈ GW := gw_m 902 (by decide +kernel) (by decide +kernel)
theorem k_859 : Cond.methodLink "NameRulesModel" 57 y_M_refuses ∈ GW := gw_m 903 (by decide +kernel) (by decide +kernel)
theorem k_861 : Cond.instanceMethod y_M_refuses ∈ GW := gw_m 905 (by decide +kernel) (by decide +kernel)
theorem k_862 : Cond.code y_M_refuses prog_10_method_3_code 2 (some .boolean) ∈ GW := gw_m 906 (by decide +kernel) (by decide +kernel)
theorem k_863 : Cond.methodLink "NameRulesLaw" 110 y_M_clear ∈ GW := gw_m 907 (by decide +kernel) (by decide +kernel)
theorem k_864 : Cond.instanceMethod y_M_clear ∈ GW := gw_m 908 (by decide +kernel) (by decide +kernel)
theorem k_865 : Cond.selects "NameRulesModel" y_M_clear y_M_clear ∈ GW := gw_m 909 (by decide +kernel) (by decide +kernel)
theorem k_866 : Cond.code y_M_clear prog_10_method_8_code 2 (some .int) ∈ GW := gw_m 910 (by decide +kernel) (by decide +kernel)
theorem k_867 : Cond.methodLink "NameRulesLaw" 114 y_M_name ∈ GW := gw_m 911 (by decide +kernel) (by decide +kernel)
theorem k_868 : Cond.instanceMethod y_M_name ∈ GW := gw_m 912 (by decide +kernel) (by decide +kernel)
theorem k_869 : Cond.selects "NameRulesModel" y_M_name y_M_name ∈ GW := gw_m 913 (by decide +kernel) (by decide +kernel)
theorem k_870 : Cond.code y_M_name prog_10_method_14_code 2 (some .int) ∈ GW := gw_m 914 (by decide +kernel) (by decide +kernel)
theorem k_871 : Cond.methodLink "NameRulesModel" 72 y_M_begin ∈ GW := gw_m 915 (by decide +kernel) (by decide +kernel)
theorem k_873 : Cond.instanceMethod y_M_begin ∈ GW := gw_m 917 (by decide +kernel) (by decide +kernel)
theorem k_874 : Cond.code y_M_begin prog_10_method_9_code 1 none ∈ GW := gw_m 918 (by decide +kernel) (by decide +kernel)
theorem k_875 : Cond.methodLink "NameRulesModel" 75 y_M_makes ∈ GW := gw_m 919 (by decide +kernel) (by decide +kernel)
theorem k_877 : Cond.instanceMethod y_M_makes ∈ GW := gw_m 921 (by decide +kernel) (by decide +kernel)
theorem k_878 : Cond.code y_M_makes prog_10_method_10_code 2 none ∈ GW := gw_m 922 (by decide +kernel) (by decide +kernel)
theorem k_879 : Cond.methodLink "NameRulesModel" 79 y_M_isTooMuch ∈ GW := gw_m 923 (by decide +kernel) (by decide +kernel)
theorem k_881 : Cond.instanceMethod y_M_isTooMuch ∈ GW := gw_m 925 (by decide +kernel) (by decide +kernel)
theorem k_882 : Cond.code y_M_isTooMuch prog_10_method_13_code 1 (some .boolean) ∈ GW := gw_m 926 (by decide +kernel) (by decide +kernel)
theorem k_883 : Cond.methodLink "NameRulesModel" 68 y_M_found ∈ GW := gw_m 927 (by decide +kernel) (by decide +kernel)
theorem k_885 : Cond.instanceMethod y_M_found ∈ GW := gw_m 929 (by decide +kernel) (by decide +kernel)
theorem k_886 : Cond.code y_M_found prog_10_method_11_code 4 (some .int) ∈ GW := gw_m 930 (by decide +kernel) (by decide +kernel)
theorem k_887 : Cond.methodLink "NameRulesModel" 64 y_M_at ∈ GW := gw_m 931 (by decide +kernel) (by decide +kernel)
theorem k_889 : Cond.instanceMethod y_M_at ∈ GW := gw_m 933 (by decide +kernel) (by decide +kernel)
theorem k_890 : Cond.code y_M_at prog_10_method_6_code 3 (some .int) ∈ GW := gw_m 934 (by decide +kernel) (by decide +kernel)
theorem k_891 : Cond.methodLink "NameRulesModel" 83 y_M_comes ∈ GW := gw_m 935 (by decide +kernel) (by decide +kernel)
theorem k_893 : Cond.instanceMethod y_M_comes ∈ GW := gw_m 937 (by decide +kernel) (by decide +kernel)
theorem k_894 : Cond.code y_M_comes prog_10_method_12_code 3 (some .int) ∈ GW := gw_m 938 (by decide +kernel) (by decide +kernel)
theorem k_895 : Cond.methodLink "NameRulesLaw" 117 y_M_expand ∈ GW := gw_m 939 (by decide +kernel) (by decide +kernel)
theorem k_896 : Cond.instanceMethod y_M_expand ∈ GW := gw_m 940 (by decide +kernel) (by decide +kernel)
theorem k_897 : Cond.selects "NameRulesModel" y_M_expand y_M_expand ∈ GW := gw_m 941 (by decide +kernel) (by decide +kernel)
theorem k_898 : Cond.code y_M_expand prog_10_method_16_code 1 (some .int) ∈ GW := gw_m 942 (by decide +kernel) (by decide +kernel)
theorem k_899 : Cond.methodLink "NameRulesModel" 86 y_M_told0 ∈ GW := gw_m 943 (by decide +kernel) (by decide +kernel)
theorem k_901 : Cond.instanceMethod y_M_told0 ∈ GW := gw_m 945 (by decide +kernel) (by decide +kernel)
theorem k_902 : Cond.code y_M_told0 prog_10_method_15_code 6 (some .boolean) ∈ GW := gw_m 946 (by decide +kernel) (by decide +kernel)
theorem k_903 : Cond.methodLink "NameRulesLaw" 121 y_M_prefix ∈ GW := gw_m 947 (by decide +kernel) (by decide +kernel)
theorem k_904 : Cond.instanceMethod y_M_prefix ∈ GW := gw_m 948 (by decide +kernel) (by decide +kernel)
theorem k_905 : Cond.selects "NameRulesModel" y_M_prefix y_M_prefix ∈ GW := gw_m 949 (by decide +kernel) (by decide +kernel)
theorem k_906 : Cond.code y_M_prefix prog_10_method_18_code 3 (some .boolean) ∈ GW := gw_m 950 (by decide +kernel) (by decide +kernel)
theorem k_907 : Cond.methodLink "NameRulesModel" 89 y_M_no ∈ GW := gw_m 951 (by decide +kernel) (by decide +kernel)
theorem k_909 : Cond.instanceMethod y_M_no ∈ GW := gw_m 953 (by decide +kernel) (by decide +kernel)
theorem k_910 : Cond.code y_M_no prog_10_method_4_code 2 (some .boolean) ∈ GW := gw_m 954 (by decide +kernel) (by decide +kernel)
theorem k_911 : Cond.methodLink "NameRulesModel" 92 y_M_canBeShort ∈ GW := gw_m 955 (by decide +kernel) (by decide +kernel)
theorem k_913 : Cond.instanceMethod y_M_canBeShort ∈ GW := gw_m 957 (by decide +kernel) (by decide +kernel)
theorem k_914 : Cond.code y_M_canBeShort prog_10_method_17_code 5 (some .boolean) ∈ GW := gw_m 958 (by decide +kernel) (by decide +kernel)
theorem k_915 : Cond.methodLink "NameRulesModel" 95 y_M_clashes ∈ GW := gw_m 959 (by decide +kernel) (by decide +kernel)
theorem k_917 : Cond.instanceMethod y_M_clashes ∈ GW := gw_m 961 (by decide +kernel) (by decide +kernel)
theorem k_918 : Cond.code y_M_clashes prog_10_method_5_code 4 none ∈ GW := gw_m 962 (by decide +kernel) (by decide +kernel)
theorem k_919 : Cond.methodLink "NameRulesLaw" 124 y_M_space ∈ GW := gw_m 963 (by decide +kernel) (by decide +kernel)
theorem k_920 : Cond.instanceMethod y_M_space ∈ GW := gw_m 964 (by decide +kernel) (by decide +kernel)
theorem k_921 : Cond.selects "NameRulesModel" y_M_space y_M_space ∈ GW := gw_m 965 (by decide +kernel) (by decide +kernel)
theorem k_922 : Cond.code y_M_space prog_10_method_22_code 2 (some .int) ∈ GW := gw_m 966 (by decide +kernel) (by decide +kernel)
theorem k_923 : Cond.methodLink "NameRulesModel" 106 y_M_spaceOf ∈ GW := gw_m 967 (by decide +kernel) (by decide +kernel)
theorem k_925 : Cond.instanceMethod y_M_spaceOf ∈ GW := gw_m 969 (by decide +kernel) (by decide +kernel)
theorem k_926 : Cond.code y_M_spaceOf prog_10_method_21_code 4 (some .int) ∈ GW := gw_m 970 (by decide +kernel) (by decide +kernel)
theorem k_927 : Cond.methodLink "NameRulesModel" 99 y_M_goesOn ∈ GW := gw_m 971 (by decide +kernel) (by decide +kernel)
theorem k_929 : Cond.instanceMethod y_M_goesOn ∈ GW := gw_m 973 (by decide +kernel) (by decide +kernel)
theorem k_930 : Cond.code y_M_goesOn prog_10_method_20_code 5 (some .boolean) ∈ GW := gw_m 974 (by decide +kernel) (by decide +kernel)
theorem k_931 : Cond.methodLink "NameRulesModel" 103 y_M_isSpace ∈ GW := gw_m 975 (by decide +kernel) (by decide +kernel)
theorem k_933 : Cond.instanceMethod y_M_isSpace ∈ GW := gw_m 977 (by decide +kernel) (by decide +kernel)
theorem k_934 : Cond.code y_M_isSpace prog_10_method_19_code 3 (some .boolean) ∈ GW := gw_m 978 (by decide +kernel) (by decide +kernel)
theorem k_935 : Cond.methodLink "NameRulesLaw" 127 y_M_best ∈ GW := gw_m 979 (by decide +kernel) (by decide +kernel)
theorem k_936 : Cond.instanceMethod y_M_best ∈ GW := gw_m 980 (by decide +kernel) (by decide +kernel)
theorem k_937 : Cond.selects "NameRulesModel" y_M_best y_M_best ∈ GW := gw_m 981 (by decide +kernel) (by decide +kernel)
theorem k_938 : Cond.code y_M_best prog_10_method_25_code 2 (some .int) ∈ GW := gw_m 982 (by decide +kernel) (by decide +kernel)
theorem k_939 : Cond.methodLink "NameRulesModel" 113 y_M_bestOf ∈ GW := gw_m 983 (by decide +kernel) (by decide +kernel)
theorem k_941 : Cond.instanceMethod y_M_bestOf ∈ GW := gw_m 985 (by decide +kernel) (by decide +kernel)
theorem k_942 : Cond.code y_M_bestOf prog_10_method_24_code 4 (some .int) ∈ GW := gw_m 986 (by decide +kernel) (by decide +kernel)
theorem k_943 : Cond.methodLink "NameRulesModel" 110 y_M_isBefore ∈ GW := gw_m 987 (by decide +kernel) (by decide +kernel)
theorem k_945 : Cond.instanceMethod y_M_isBefore ∈ GW := gw_m 989 (by decide +kernel) (by decide +kernel)
theorem k_946 : Cond.code y_M_isBefore prog_10_method_23_code 4 (some .boolean) ∈ GW := gw_m 990 (by decide +kernel) (by decide +kernel)
theorem k_947 : Cond.methodLink "NameRulesLaw" 130 y_M_propose ∈ GW := gw_m 991 (by decide +kernel) (by decide +kernel)
theorem k_948 : Cond.instanceMethod y_M_propose ∈ GW := gw_m 992 (by decide +kernel) (by decide +kernel)
theorem k_949 : Cond.selects "NameRulesModel" y_M_propose y_M_propose ∈ GW := gw_m 993 (by decide +kernel) (by decide +kernel)
theorem k_950 : Cond.code y_M_propose prog_10_method_28_code 8 (some .int) ∈ GW := gw_m 994 (by decide +kernel) (by decide +kernel)
theorem k_951 : Cond.methodLink "NameRulesModel" 116 y_M_isLetter ∈ GW := gw_m 995 (by decide +kernel) (by decide +kernel)
theorem k_952 : Cond.static y_M_isLetter ∈ GW := gw_m 996 (by decide +kernel) (by decide +kernel)
theorem k_953 : Cond.code y_M_isLetter prog_10_method_26_code 1 (some .boolean) ∈ GW := gw_m 997 (by decide +kernel) (by decide +kernel)
theorem k_954 : Cond.methodLink "NameRulesModel" 119 y_M_isTaken ∈ GW := gw_m 998 (by decide +kernel) (by decide +kernel)
theorem k_956 : Cond.instanceMethod y_M_isTaken ∈ GW := gw_m 1000 (by decide +kernel) (by decide +kernel)
theorem k_957 : Cond.code y_M_isTaken prog_10_method_27_code 2 (some .boolean) ∈ GW := gw_m 1001 (by decide +kernel) (by decide +kernel)
theorem k_958 : Cond.methodLink "NameRulesLaw" 133 y_M_print ∈ GW := gw_m 1002 (by decide +kernel) (by decide +kernel)
theorem k_959 : Cond.instanceMethod y_M_print ∈ GW := gw_m 1003 (by decide +kernel) (by decide +kernel)
theorem k_960 : Cond.selects "NameRulesModel" y_M_print y_M_print ∈ GW := gw_m 1004 (by decide +kernel) (by decide +kernel)
theorem k_961 : Cond.code y_M_print prog_10_method_29_code 5 (some .int) ∈ GW := gw_m 1005 (by decide +kernel) (by decide +kernel)
theorem k_962 : Cond.methodLink "NameRulesLaw" 138 y_M_letter ∈ GW := gw_m 1006 (by decide +kernel) (by decide +kernel)
theorem k_963 : Cond.instanceMethod y_M_letter ∈ GW := gw_m 1007 (by decide +kernel) (by decide +kernel)
theorem k_964 : Cond.selects "NameRulesModel" y_M_letter y_M_letter ∈ GW := gw_m 1008 (by decide +kernel) (by decide +kernel)
theorem k_965 : Cond.code y_M_letter prog_10_method_30_code 2 (some .char) ∈ GW := gw_m 1009 (by decide +kernel) (by decide +kernel)
theorem k_966 : Cond.methodLink "NameRulesLaw" 142 y_M_row ∈ GW := gw_m 1010 (by decide +kernel) (by decide +kernel)
theorem k_967 : Cond.instanceMethod y_M_row ∈ GW := gw_m 1011 (by decide +kernel) (by decide +kernel)
theorem k_968 : Cond.selects "NameRulesModel" y_M_row y_M_row ∈ GW := gw_m 1012 (by decide +kernel) (by decide +kernel)
theorem k_969 : Cond.code y_M_row prog_10_method_32_code 5 (some .int) ∈ GW := gw_m 1013 (by decide +kernel) (by decide +kernel)
theorem k_970 : Cond.methodLink "NameRulesModel" 128 y_M_rowOf ∈ GW := gw_m 1014 (by decide +kernel) (by decide +kernel)
theorem k_972 : Cond.instanceMethod y_M_rowOf ∈ GW := gw_m 1016 (by decide +kernel) (by decide +kernel)
theorem k_973 : Cond.code y_M_rowOf prog_10_method_31_code 3 (some .int) ∈ GW := gw_m 1017 (by decide +kernel) (by decide +kernel)
theorem k_974 : Cond.methodLink "NameRulesLaw" 145 y_M_told2 ∈ GW := gw_m 1018 (by decide +kernel) (by decide +kernel)
theorem k_975 : Cond.instanceMethod y_M_told2 ∈ GW := gw_m 1019 (by decide +kernel) (by decide +kernel)
theorem k_976 : Cond.selects "NameRulesModel" y_M_told2 y_M_told2 ∈ GW := gw_m 1020 (by decide +kernel) (by decide +kernel)
theorem k_977 : Cond.code y_M_told2 prog_10_method_33_code 3 (some .int) ∈ GW := gw_m 1021 (by decide +kernel) (by decide +kernel)
theorem k_978 : Cond.methodLink "NameRulesLaw" 148 y_M_document ∈ GW := gw_m 1022 (by decide +kernel) (by decide +kernel)
theorem k_979 : Cond.instanceMethod y_M_document ∈ GW := gw_m 1023 (by decide +kernel) (by decide +kernel)
theorem k_980 : Cond.selects "NameRulesModel" y_M_document y_M_document ∈ GW := gw_m 1024 (by decide +kernel) (by decide +kernel)
theorem k_981 : Cond.code y_M_document prog_10_method_34_code 6 (some .int) ∈ GW := gw_m 1025 (by decide +kernel) (by decide +kernel)
theorem k_982 : Cond.methodLink "NameRulesLaw" 151 y_M_use ∈ GW := gw_m 1026 (by decide +kernel) (by decide +kernel)
theorem k_983 : Cond.instanceMethod y_M_use ∈ GW := gw_m 1027 (by decide +kernel) (by decide +kernel)
theorem k_984 : Cond.selects "NameRulesModel" y_M_use y_M_use ∈ GW := gw_m 1028 (by decide +kernel) (by decide +kernel)
theorem k_985 : Cond.code y_M_use prog_10_method_35_code 2 (some .int) ∈ GW := gw_m 1029 (by decide +kernel) (by decide +kernel)
theorem k_986 : Cond.methodLink "NameRulesLaw" 154 y_M_used ∈ GW := gw_m 1030 (by decide +kernel) (by decide +kernel)
theorem k_987 : Cond.instanceMethod y_M_used ∈ GW := gw_m 1031 (by decide +kernel) (by decide +kernel)
theorem k_988 : Cond.selects "NameRulesModel" y_M_used y_M_used ∈ GW := gw_m 1032 (by decide +kernel) (by decide +kernel)
theorem k_989 : Cond.code y_M_used prog_10_method_36_code 2 (some .int) ∈ GW := gw_m 1033 (by decide +kernel) (by decide +kernel)
theorem k_990 : Cond.methodLink "NameRulesLaw" 157 y_M_unknown ∈ GW := gw_m 1034 (by decide +kernel) (by decide +kernel)
theorem k_991 : Cond.instanceMethod y_M_unknown ∈ GW := gw_m 1035 (by decide +kernel) (by decide +kernel)
theorem k_992 : Cond.selects "NameRulesModel" y_M_unknown y_M_unknown ∈ GW := gw_m 1036 (by decide +kernel) (by decide +kernel)
theorem k_993 : Cond.code y_M_unknown prog_10_method_38_code 4 (some .int) ∈ GW := gw_m 1037 (by decide +kernel) (by decide +kernel)
theorem k_994 : Cond.methodLink "NameRulesModel" 131 y_M_isUnknown ∈ GW := gw_m 1038 (by decide +kernel) (by decide +kernel)
theorem k_996 : Cond.instanceMethod y_M_isUnknown ∈ GW := gw_m 1040 (by decide +kernel) (by decide +kernel)
theorem k_997 : Cond.code y_M_isUnknown prog_10_method_37_code 5 (some .boolean) ∈ GW := gw_m 1041 (by decide +kernel) (by decide +kernel)
theorem k_998 : Cond.methodLink "NameRulesLaw" 160 y_M_apart ∈ GW := gw_m 1042 (by decide +kernel) (by decide +kernel)
theorem k_999 : Cond.instanceMethod y_M_apart ∈ GW := gw_m 1043 (by decide +kernel) (by decide +kernel)
theorem k_1000 : Cond.selects "NameRulesModel" y_M_apart y_M_apart ∈ GW := gw_m 1044 (by decide +kernel) (by decide +kernel)
theorem k_1001 : Cond.code y_M_apart prog_10_method_40_code 3 (some .int) ∈ GW := gw_m 1045 (by decide +kernel) (by decide +kernel)
theorem k_1002 : Cond.methodLink "NameRulesModel" 134 y_M_distance ∈ GW := gw_m 1046 (by decide +kernel) (by decide +kernel)
theorem k_1004 : Cond.instanceMethod y_M_distance ∈ GW := gw_m 1048 (by decide +kernel) (by decide +kernel)
theorem k_1005 : Cond.code y_M_distance prog_10_method_39_code 8 (some .int) ∈ GW := gw_m 1049 (by decide +kernel) (by decide +kernel)
theorem k_1006 : Cond.methodLink "NameRulesLaw" 163 y_M_near ∈ GW := gw_m 1050 (by decide +kernel) (by decide +kernel)
theorem k_1007 : Cond.instanceMethod y_M_near ∈ GW := gw_m 1051 (by decide +kernel) (by decide +kernel)
theorem k_1008 : Cond.selects "NameRulesModel" y_M_near y_M_near ∈ GW := gw_m 1052 (by decide +kernel) (by decide +kernel)
theorem k_1009 : Cond.code y_M_near prog_10_method_41_code 6 (some .int) ∈ GW := gw_m 1053 (by decide +kernel) (by decide +kernel)
theorem k_1010 : Cond.methodLink "NameRulesLaw" 166 y_M_alias ∈ GW := gw_m 1054 (by decide +kernel) (by decide +kernel)
theorem k_1011 : Cond.instanceMethod y_M_alias ∈ GW := gw_m 1055 (by decide +kernel) (by decide +kernel)
theorem k_1012 : Cond.selects "NameRulesModel" y_M_alias y_M_alias ∈ GW := gw_m 1056 (by decide +kernel) (by decide +kernel)
theorem k_1013 : Cond.code y_M_alias prog_10_method_43_code 3 (some .boolean) ∈ GW := gw_m 1057 (by decide +kernel) (by decide +kernel)
theorem k_1014 : Cond.methodLink "NameRulesModel" 137 y_M_comesTo ∈ GW := gw_m 1058 (by decide +kernel) (by decide +kernel)
theorem k_1016 : Cond.instanceMethod y_M_comesTo ∈ GW := gw_m 1060 (by decide +kernel) (by decide +kernel)
theorem k_1017 : Cond.code y_M_comesTo prog_10_method_42_code 4 (some .boolean) ∈ GW := gw_m 1061 (by decide +kernel) (by decide +kernel)
theorem k_1018 : Cond.methodLink "NameRulesLaw" 169 y_M_meaning ∈ GW := gw_m 1062 (by decide +kernel) (by decide +kernel)
theorem k_1019 : Cond.instanceMethod y_M_meaning ∈ GW := gw_m 1063 (by decide +kernel) (by decide +kernel)
theorem k_1020 : Cond.selects "NameRulesModel" y_M_meaning y_M_meaning ∈ GW := gw_m 1064 (by decide +kernel) (by decide +kernel)
theorem k_1021 : Cond.code y_M_meaning prog_10_method_44_code 3 (some .int) ∈ GW := gw_m 1065 (by decide +kernel) (by decide +kernel)
theorem k_1022 : Cond.methodLink "NameRulesLaw" 172 y_M_join ∈ GW := gw_m 1066 (by decide +kernel) (by decide +kernel)
theorem k_1023 : Cond.instanceMethod y_M_join ∈ GW := gw_m 1067 (by decide +kernel) (by decide +kernel)
theorem k_1024 : Cond.selects "NameRulesModel" y_M_join y_M_join ∈ GW := gw_m 1068 (by decide +kernel) (by decide +kernel)
theorem k_1025 : Cond.code y_M_join prog_10_method_45_code 6 (some .int) ∈ GW := gw_m 1069 (by decide +kernel) (by decide +kernel)
theorem k_1026 : Cond.methodLink "NameRulesLaw" 175 y_M_rename ∈ GW := gw_m 1070 (by decide +kernel) (by decide +kernel)
theorem k_1027 : Cond.instanceMethod y_M_rename ∈ GW := gw_m 1071 (by decide +kernel) (by decide +kernel)
theorem k_1028 : Cond.selects "NameRulesModel" y_M_rename y_M_rename ∈ GW := gw_m 1072 (by decide +kernel) (by decide +kernel)
theorem k_1029 : Cond.code y_M_rename prog_10_method_47_code 5 (some .int) ∈ GW := gw_m 1073 (by decide +kernel) (by decide +kernel)
theorem k_1030 : Cond.methodLink "NameRulesModel" 140 y_M_canNotRename ∈ GW := gw_m 1074 (by decide +kernel) (by decide +kernel)
theorem k_1032 : Cond.instanceMethod y_M_canNotRename ∈ GW := gw_m 1076 (by decide +kernel) (by decide +kernel)
theorem k_1033 : Cond.code y_M_canNotRename prog_10_method_46_code 5 (some .boolean) ∈ GW := gw_m 1077 (by decide +kernel) (by decide +kernel)
theorem k_1034 : Cond.methodLink "NameRulesLaw" 178 y_M_now ∈ GW := gw_m 1078 (by decide +kernel) (by decide +kernel)
theorem k_1035 : Cond.instanceMethod y_M_now ∈ GW := gw_m 1079 (by decide +kernel) (by decide +kernel)
theorem k_1036 : Cond.selects "NameRulesModel" y_M_now y_M_now ∈ GW := gw_m 1080 (by decide +kernel) (by decide +kernel)
theorem k_1037 : Cond.code y_M_now prog_10_method_48_code 4 (some .int) ∈ GW := gw_m 1081 (by decide +kernel) (by decide +kernel)
theorem k_1038 : Cond.methodLink "NameRulesLaw" 181 y_M_was ∈ GW := gw_m 1082 (by decide +kernel) (by decide +kernel)
theorem k_1039 : Cond.instanceMethod y_M_was ∈ GW := gw_m 1083 (by decide +kernel) (by decide +kernel)
theorem k_1040 : Cond.selects "NameRulesModel" y_M_was y_M_was ∈ GW := gw_m 1084 (by decide +kernel) (by decide +kernel)
theorem k_1041 : Cond.code y_M_was prog_10_method_49_code 4 (some .int) ∈ GW := gw_m 1085 (by decide +kernel) (by decide +kernel)
theorem k_1042 : Cond.methodLink "NameRulesLaw" 184 y_M_clash ∈ GW := gw_m 1086 (by decide +kernel) (by decide +kernel)
theorem k_1043 : Cond.instanceMethod y_M_clash ∈ GW := gw_m 1087 (by decide +kernel) (by decide +kernel)
theorem k_1044 : Cond.selects "NameRulesModel" y_M_clash y_M_clash ∈ GW := gw_m 1088 (by decide +kernel) (by decide +kernel)
theorem k_1045 : Cond.code y_M_clash prog_10_method_50_code 2 (some .int) ∈ GW := gw_m 1089 (by decide +kernel) (by decide +kernel)
theorem k_1046 : Cond.methodLink "NameRulesLaw" 187 y_M_count ∈ GW := gw_m 1090 (by decide +kernel) (by decide +kernel)
theorem k_1047 : Cond.instanceMethod y_M_count ∈ GW := gw_m 1091 (by decide +kernel) (by decide +kernel)
theorem k_1048 : Cond.selects "NameRulesModel" y_M_count y_M_count ∈ GW := gw_m 1092 (by decide +kernel) (by decide +kernel)
theorem k_1049 : Cond.code y_M_count prog_10_method_51_code 4 (some .int) ∈ GW := gw_m 1093 (by decide +kernel) (by decide +kernel)
theorem k_1050 : Cond.arrayClass .long ∈ GW := gw_m 1094 (by decide +kernel) (by decide +kernel)
theorem k_1051 : Cond.sameMethod "java/lang/Throwable" "java/lang/Throwable" "fillInStackTrace" "(I)Ljava/lang/Throwable;" ∈ GW := gw_m 1095 (by decide +kernel) (by decide +kernel)
end
section
theorem d_C_init_0 : decode b_C_init 0 = .ok (.aload_n 0, 1) := by decide +kernel
theorem d_C_init_1 : decode b_C_init 1 = .ok (.invokespecial 3, 3) := by decide +kernel
theorem d_C_init_4 : decode b_C_init 4 = .ok (.aload_n 0, 1) := by decide +kernel
theorem d_C_init_5 : decode b_C_init 5 = .ok (.new 9, 3) := by decide +kernel
theorem d_C_init_8 : decode b_C_init 8 = .ok (.dup, 1) := by decide +kernel
theorem d_C_init_9 : decode b_C_init 9 = .ok (.bipush 24, 2) := by decide +kernel
theorem d_C_init_11 : decode b_C_init 11 = .ok (.invokespecial 11, 3) := by decide +kernel
theorem d_C_init_14 : decode b_C_init 14 = .ok (.putfield 14, 3) := by decide +kernel
theorem d_C_init_17 : decode b_C_init 17 = .ok (.aload_n 0, 1) := by decide +kernel
theorem d_C_init_18 : decode b_C_init 18 = .ok (.new 9, 3) := by decide +kernel
theorem d_C_init_21 : decode b_C_init 21 = .ok (.dup, 1) := by decide +kernel
theorem d_C_init_22 : decode b_C_init 22 = .ok (.bipush 28, 2) := by decide +kernel
theorem d_C_init_24 : decode b_C_init 24 = .ok (.invokespecial 11, 3) := by decide +kernel
theorem d_C_init_27 : decode b_C_init 27 = .ok (.putfield 18, 3) := by decide +kernel
theorem d_C_init_30 : decode b_C_init 30 = .ok (.aload_n 0, 1) := by decide +kernel
theorem d_C_init_31 : decode b_C_init 31 = .ok (.new 9, 3) := by decide +kernel
theorem d_C_init_34 : decode b_C_init 34 = .ok (.dup, 1) := by decide +kernel
theorem d_C_init_35 : decode b_C_init 35 = .ok (.bipush 49, 2) := by decide +kernel
theorem d_C_init_37 : decode b_C_init 37 = .ok (.invokespecial 11, 3) := by decide +kernel
theorem d_C_init_40 : decode b_C_init 40 = .ok (.putfield 21, 3) := by decide +kernel
theorem d_C_init_43 : decode b_C_init 43 = .ok (.aload_n 0, 1) := by decide +kernel
theorem d_C_init_44 : decode b_C_init 44 = .ok (.new 24, 3) := by decide +kernel
theorem d_C_init_47 : decode b_C_init 47 = .ok (.dup, 1) := by decide +kernel
theorem d_C_init_48 : decode b_C_init 48 = .ok (.invokespecial 26, 3) := by decide +kernel
theorem d_C_init_51 : decode b_C_init 51 = .ok (.putfield 27, 3) := by decide +kernel
theorem d_C_init_54 : decode b_C_init 54 = .ok (.aload_n 0, 1) := by decide +kernel
theorem d_C_init_55 : decode b_C_init 55 = .ok (.new 31, 3) := by decide +kernel
theorem d_C_init_58 : decode b_C_init 58 = .ok (.dup, 1) := by decide +kernel
theorem d_C_init_59 : decode b_C_init 59 = .ok (.aload_n 0, 1) := by decide +kernel
theorem d_C_init_60 : decode b_C_init 60 = .ok (.getfield 27, 3) := by decide +kernel
theorem d_C_init_63 : decode b_C_init 63 = .ok (.invokespecial 33, 3) := by decide +kernel
theorem d_C_init_66 : decode b_C_init 66 = .ok (.putfield 36, 3) := by decide +kernel
theorem d_C_init_69 : decode b_C_init 69 = .ok (.aload_n 0, 1) := by decide +kernel
theorem d_C_init_70 : decode b_C_init 70 = .ok (.new 40, 3) := by decide +kernel
theorem d_C_init_73 : decode b_C_init 73 = .ok (.dup, 1) := by decide +kernel
theorem d_C_init_74 : decode b_C_init 74 = .ok (.invokespecial 42, 3) := by decide +kernel
theorem d_C_init_77 : decode b_C_init 77 = .ok (.putfield 43, 3) := by decide +kernel
theorem d_C_init_80 : decode b_C_init 80 = .ok (.aload_n 0, 1) := by decide +kernel
theorem d_C_init_81 : decode b_C_init 81 = .ok (.new 47, 3) := by decide +kernel
theorem d_C_init_84 : decode b_C_init 84 = .ok (.dup, 1) := by decide +kernel
theorem d_C_init_85 : decode b_C_init 85 = .ok (.invokespecial 49, 3) := by decide +kernel
theorem d_C_init_88 : decode b_C_init 88 = .ok (.putfield 50, 3) := by decide +kernel
theorem d_C_init_91 : decode b_C_init 91 = .ok (.aload_n 0, 1) := by decide +kernel
theorem d_C_init_92 : decode b_C_init 92 = .ok (.new 54, 3) := by decide +kernel
theorem d_C_init_95 : decode b_C_init 95 = .ok (.dup, 1) := by decide +kernel
theorem d_C_init_96 : decode b_C_init 96 = .ok (.invokespecial 56, 3) := by decide +kernel
theorem d_C_init_99 : decode b_C_init 99 = .ok (.putfield 57, 3) := by decide +kernel
theorem d_C_init_102 : decode b_C_init 102 = .ok (.aload_n 0, 1) := by decide +kernel
theorem d_C_init_103 : decode b_C_init 103 = .ok (.new 61, 3) := by decide +kernel
theorem d_C_init_106 : decode b_C_init 106 = .ok (.dup, 1) := by decide +kernel
theorem d_C_init_107 : decode b_C_init 107 = .ok (.invokespecial 63, 3) := by decide +kernel
theorem d_C_init_110 : decode b_C_init 110 = .ok (.putfield 64, 3) := by decide +kernel
theorem d_C_init_113 : decode b_C_init 113 = .ok (.aload_n 0, 1) := by decide +kernel
theorem d_C_init_114 : decode b_C_init 114 = .ok (.bipush 60, 2) := by decide +kernel
theorem d_C_init_116 : decode b_C_init 116 = .ok (.newarray .int, 2) := by decide +kernel
theorem d_C_init_118 : decode b_C_init 118 = .ok (.putfield 68, 3) := by decide +kernel
theorem d_C_init_121 : decode b_C_init 121 = .ok (.aload_n 0, 1) := by decide +kernel
theorem d_C_init_122 : decode b_C_init 122 = .ok (.bipush 60, 2) := by decide +kernel
theorem d_C_init_124 : decode b_C_init 124 = .ok (.newarray .boolean, 2) := by decide +kernel
theorem d_C_init_126 : decode b_C_init 126 = .ok (.putfield 72, 3) := by decide +kernel
theorem d_C_init_129 : decode b_C_init 129 = .ok (.aload_n 0, 1) := by decide +kernel
theorem d_C_init_130 : decode b_C_init 130 = .ok (.bipush 40, 2) := by decide +kernel
theorem d_C_init_132 : decode b_C_init 132 = .ok (.newarray .int, 2) := by decide +kernel
theorem d_C_init_134 : decode b_C_init 134 = .ok (.putfield 76, 3) := by decide +kernel
theorem d_C_init_137 : decode b_C_init 137 = .ok (.aload_n 0, 1) := by decide +kernel
theorem d_C_init_138 : decode b_C_init 138 = .ok (.iconst 0, 1) := by decide +kernel
theorem d_C_init_139 : decode b_C_init 139 = .ok (.putfield 79, 3) := by decide +kernel
theorem d_C_init_142 : decode b_C_init 142 = .ok (.aload_n 0, 1) := by decide +kernel
theorem d_C_init_143 : decode b_C_init 143 = .ok (.iconst (-1), 1) := by decide +kernel
theorem d_C_init_144 : decode b_C_init 144 = .ok (.putfield 83, 3) := by decide +kernel
theorem d_C_init_147 : decode b_C_init 147 = .ok (.aload_n 0, 1) := by decide +kernel
theorem d_C_init_148 : decode b_C_init 148 = .ok (.iconst (-1), 1) := by decide +kernel
theorem d_C_init_149 : decode b_C_init 149 = .ok (.putfield 86, 3) := by decide +kernel
theorem d_C_init_152 : decode b_C_init 152 = .ok (.return_, 1) := by decide +kernel
theorem d_C_type_0 : decode b_C_type 0 = .ok (.iload_n 1, 1) := by decide +kernel
theorem d_C_type_1 : decode b_C_type 1 = .ok (.bipush 33, 2) := by decide +kernel
theorem d_C_type_3 : decode b_C_type 3 = .ok (.if_icmp .lt 9, 3) := by decide +kernel
theorem d_C_type_6 : decode b_C_type 6 = .ok (.iload_n 1, 1) := by decide +kernel
theorem d_C_type_7 : decode b_C_type 7 = .ok (.bipush 126, 2) := by decide +kernel
theorem d_C_type_9 : decode b_C_type 9 = .ok (.if_icmp .le 13, 3) := by decide +kernel
theorem d_C_type_12 : decode b_C_type 12 = .ok (.new 89, 3) := by decide +kernel
theorem d_C_type_15 : decode b_C_type 15 = .ok (.dup, 1) := by decide +kernel
theorem d_C_type_16 : decode b_C_type 16 = .ok (.ldc 91, 2) := by decide +kernel
theorem d_C_type_18 : decode b_C_type 18 = .ok (.invokespecial 93, 3) := by decide +kernel
theorem d_C_type_21 : decode b_C_type 21 = .ok (.athrow, 1) := by decide +kernel
theorem d_C_type_22 : decode b_C_type 22 = .ok (.aload_n 0, 1) := by decide +kernel
theorem d_C_type_23 : decode b_C_type 23 = .ok (.getfield 14, 3) := by decide +kernel
theorem d_C_type_26 : decode b_C_type 26 = .ok (.invokevirtual 96, 3) := by decide +kernel
theorem d_C_type_29 : decode b_C_type 29 = .ok (.ifCond .eq 13, 3) := by decide +kernel
theorem d_C_type_32 : decode b_C_type 32 = .ok (.new 100, 3) := by decide +kernel
theorem d_C_type_35 : decode b_C_type 35 = .ok (.dup, 1) := by decide +kernel
theorem d_C_type_36 : decode b_C_type 36 = .ok (.ldc 102, 2) := by decide +kernel
theorem d_C_type_38 : decode b_C_type 38 = .ok (.invokespecial 104, 3) := by decide +kernel
theorem d_C_type_41 : decode b_C_type 41 = .ok (.athrow, 1) := by decide +kernel
theorem d_C_type_42 : decode b_C_type 42 = .ok (.aload_n 0, 1) := by decide +kernel
theorem d_C_type_43 : decode b_C_type 43 = .ok (.getfield 14, 3) := by decide +kernel
theorem d_C_type_46 : decode b_C_type 46 = .ok (.iload_n 1, 1) := by decide +kernel
theorem d_C_type_47 : decode b_C_type 47 = .ok (.i2c, 1) := by decide +kernel
theorem d_C_type_48 : decode b_C_type 48 = .ok (.invokevirtual 105, 3) := by decide +kernel
theorem d_C_type_51 : decode b_C_type 51 = .ok (.aload_n 0, 1) := by decide +kernel
theorem d_C_type_52 : decode b_C_type 52 = .ok (.getfield 14, 3) := by decide +kernel
theorem d_C_type_55 : decode b_C_type 55 = .ok (.invokevirtual 109, 3) := by decide +kernel
theorem d_C_type_58 : decode b_C_type 58 = .ok (.ireturn, 1) := by decide +kernel
theorem d_C_clear_0 : decode b_C_clear 0 = .ok (.aload_n 0, 1) := by decide +kernel
theorem d_C_clear_1 : decode b_C_clear 1 = .ok (.getfield 14, 3) := by decide +kernel
theorem d_C_clear_4 : decode b_C_clear 4 = .ok (.invokevirtual 109, 3) := by decide +kernel
theorem d_C_clear_7 : decode b_C_clear 7 = .ok (.istore_n 1, 1) := by decide +kernel
theorem d_C_clear_8 : decode b_C_clear 8 = .ok (.aload_n 0, 1) := by decide +kernel
theorem d_C_clear_9 : decode b_C_clear 9 = .ok (.getfield 14, 3) := by decide +kernel
theorem d_C_clear_12 : decode b_C_clear 12 = .ok (.invokevirtual 113, 3) := by decide +kernel
theorem d_C_clear_15 : decode b_C_clear 15 = .ok (.iload_n 1, 1) := by decide +kernel
theorem d_C_clear_16 : decode b_C_clear 16 = .ok (.ireturn, 1) := by decide +kernel
theorem d_C_name_0 : decode b_C_name 0 = .ok (.aload_n 0, 1) := by decide +kernel
theorem d_C_name_1 : decode b_C_name 1 = .ok (.invokevirtual 116, 3) := by decide +kernel
theorem d_C_name_4 : decode b_C_name 4 = .ok (.aload_n 0, 1) := by decide +kernel
theorem d_C_name_5 : decode b_C_name 5 = .ok (.aload_n 0, 1) := by decide +kernel
theorem d_C_name_6 : decode b_C_name 6 = .ok (.getfield 14, 3) := by decide +kernel
theorem d_C_name_9 : decode b_C_name 9 = .ok (.invokevirtual 119, 3) := by decide +kernel
theorem d_C_name_12 : decode b_C_name 12 = .ok (.istore_n 1, 1) := by decide +kernel
theorem d_C_name_13 : decode b_C_name 13 = .ok (.aload_n 0, 1) := by decide +kernel
theorem d_C_name_14 : decode b_C_name 14 = .ok (.getfield 14, 3) := by decide +kernel
theorem d_C_name_17 : decode b_C_name 17 = .ok (.invokevirtual 113, 3) := by decide +kernel
theorem d_C_name_20 : decode b_C_name 20 = .ok (.iload_n 1, 1) := by decide +kernel
theorem d_C_name_21 : decode b_C_name 21 = .ok (.ireturn, 1) := by decide +kernel
theorem d_C_expand_0 : decode b_C_expand 0 = .ok (.aload_n 0, 1) := by decide +kernel
theorem d_C_expand_1 : decode b_C_expand 1 = .ok (.invokevirtual 116, 3) := by decide +kernel
theorem d_C_expand_4 : decode b_C_expand 4 = .ok (.aload_n 0, 1) := by decide +kernel
theorem d_C_expand_5 : decode b_C_expand 5 = .ok (.invokevirtual 123, 3) := by decide +kernel
theorem d_C_expand_8 : decode b_C_expand 8 = .ok (.aload_n 0, 1) := by decide +kernel
theorem d_C_expand_9 : decode b_C_expand 9 = .ok (.getfield 21, 3) := by decide +kernel
theorem d_C_expand_12 : decode b_C_expand 12 = .ok (.invokevirtual 126, 3) := by decide +kernel
theorem d_C_expand_15 : decode b_C_expand 15 = .ok (.ifCond .eq 13, 3) := by decide +kernel
theorem d_C_expand_18 : decode b_C_expand 18 = .ok (.new 89, 3) := by decide +kernel
theorem d_C_expand_21 : decode b_C_expand 21 = .ok (.dup, 1) := by decide +kernel
theorem d_C_expand_22 : decode b_C_expand 22 = .ok (.ldc 129, 2) := by decide +kernel
theorem d_C_expand_24 : decode b_C_expand 24 = .ok (.invokespecial 93, 3) := by decide +kernel
theorem d_C_expand_27 : decode b_C_expand 27 = .ok (.athrow, 1) := by decide +kernel
theorem d_C_expand_28 : decode b_C_expand 28 = .ok (.aload_n 0, 1) := by decide +kernel
theorem d_C_expand_29 : decode b_C_expand 29 = .ok (.aload_n 0, 1) := by decide +kernel
theorem d_C_expand_30 : decode b_C_expand 30 = .ok (.getfield 21, 3) := by decide +kernel
theorem d_C_expand_33 : decode b_C_expand 33 = .ok (.invokevirtual 119, 3) := by decide +kernel
theorem d_C_expand_36 : decode b_C_expand 36 = .ok (.istore_n 1, 1) := by decide +kernel
theorem d_C_expand_37 : decode b_C_expand 37 = .ok (.aload_n 0, 1) := by decide +kernel
theorem d_C_expand_38 : decode b_C_expand 38 = .ok (.getfield 14, 3) := by decide +kernel
theorem d_C_expand_41 : decode b_C_expand 41 = .ok (.invokevirtual 113, 3) := by decide +kernel
theorem d_C_expand_44 : decode b_C_expand 44 = .ok (.iload_n 1, 1) := by decide +kernel
theorem d_C_expand_45 : decode b_C_expand 45 = .ok (.ireturn, 1) := by decide +kernel
theorem d_C_prefix_0 : decode b_C_prefix 0 = .ok (.aload_n 0, 1) := by decide +kernel
theorem d_C_prefix_1 : decode b_C_prefix 1 = .ok (.iload_n 1, 1) := by decide +kernel
theorem d_C_prefix_2 : decode b_C_prefix 2 = .ok (.invokevirtual 131, 3) := by decide +kernel
theorem d_C_prefix_5 : decode b_C_prefix 5 = .ok (.aload_n 0, 1) := by decide +kernel
theorem d_C_prefix_6 : decode b_C_prefix 6 = .ok (.iload_n 2, 1) := by decide +kernel
theorem d_C_prefix_7 : decode b_C_prefix 7 = .ok (.invokevirtual 131, 3) := by decide +kernel
theorem d_C_prefix_10 : decode b_C_prefix 10 = .ok (.iload_n 1, 1) := by decide +kernel
theorem d_C_prefix_11 : decode b_C_prefix 11 = .ok (.iload_n 2, 1) := by decide +kernel
theorem d_C_prefix_12 : decode b_C_prefix 12 = .ok (.if_icmp .eq 17, 3) := by decide +kernel
theorem d_C_prefix_15 : decode b_C_prefix 15 = .ok (.aload_n 0, 1) := by decide +kernel
theorem d_C_prefix_16 : decode b_C_prefix 16 = .ok (.getfield 27, 3) := by decide +kernel
theorem d_C_prefix_19 : decode b_C_prefix 19 = .ok (.iload_n 2, 1) := by decide +kernel
theorem d_C_prefix_20 : decode b_C_prefix 20 = .ok (.invokevirtual 134, 3) := by decide +kernel
theorem d_C_prefix_23 : decode b_C_prefix 23 = .ok (.invokevirtual 138, 3) := by decide +kernel
theorem d_C_prefix_26 : decode b_C_prefix 26 = .ok (.ifCond .ne 13, 3) := by decide +kernel
theorem d_C_prefix_29 : decode b_C_prefix 29 = .ok (.new 89, 3) := by decide +kernel
theorem d_C_prefix_32 : decode b_C_prefix 32 = .ok (.dup, 1) := by decide +kernel
theorem d_C_prefix_33 : decode b_C_prefix 33 = .ok (.ldc 141, 2) := by decide +kernel
theorem d_C_prefix_35 : decode b_C_prefix 35 = .ok (.invokespecial 93, 3) := by decide +kernel
theorem d_C_prefix_38 : decode b_C_prefix 38 = .ok (.athrow, 1) := by decide +kernel
theorem d_C_prefix_39 : decode b_C_prefix 39 = .ok (.aload_n 0, 1) := by decide +kernel
theorem d_C_prefix_40 : decode b_C_prefix 40 = .ok (.getfield 36, 3) := by decide +kernel
theorem d_C_prefix_43 : decode b_C_prefix 43 = .ok (.iload_n 2, 1) := by decide +kernel
theorem d_C_prefix_44 : decode b_C_prefix 44 = .ok (.invokevirtual 143, 3) := by decide +kernel
theorem d_C_prefix_47 : decode b_C_prefix 47 = .ok (.istore_n 3, 1) := by decide +kernel
theorem d_C_prefix_48 : decode b_C_prefix 48 = .ok (.iload_n 3, 1) := by decide +kernel
theorem d_C_prefix_49 : decode b_C_prefix 49 = .ok (.iconst (-1), 1) := by decide +kernel
theorem d_C_prefix_50 : decode b_C_prefix 50 = .ok (.if_icmp .eq 17, 3) := by decide +kernel
theorem d_C_prefix_53 : decode b_C_prefix 53 = .ok (.iload_n 3, 1) := by decide +kernel
theorem d_C_prefix_54 : decode b_C_prefix 54 = .ok (.iload_n 1, 1) := by decide +kernel
theorem d_C_prefix_55 : decode b_C_prefix 55 = .ok (.if_icmp .eq 12, 3) := by decide +kernel
theorem d_C_prefix_58 : decode b_C_prefix 58 = .ok (.aload_n 0, 1) := by decide +kernel
theorem d_C_prefix_59 : decode b_C_prefix 59 = .ok (.iconst 1, 1) := by decide +kernel
theorem d_C_prefix_60 : decode b_C_prefix 60 = .ok (.iload_n 3, 1) := by decide +kernel
theorem d_C_prefix_61 : decode b_C_prefix 61 = .ok (.iload_n 1, 1) := by decide +kernel
theorem d_C_prefix_62 : decode b_C_prefix 62 = .ok (.invokevirtual 147, 3) := by decide +kernel
theorem d_C_prefix_65 : decode b_C_prefix 65 = .ok (.iconst 0, 1) := by decide +kernel
theorem d_C_prefix_66 : decode b_C_prefix 66 = .ok (.ireturn, 1) := by decide +kernel
theorem d_C_prefix_67 : decode b_C_prefix 67 = .ok (.iload_n 3, 1) := by decide +kernel
theorem d_C_prefix_68 : decode b_C_prefix 68 = .ok (.iconst (-1), 1) := by decide +kernel
theorem d_C_prefix_69 : decode b_C_prefix 69 = .ok (.if_icmp .ne 12, 3) := by decide +kernel
theorem d_C_prefix_72 : decode b_C_prefix 72 = .ok (.aload_n 0, 1) := by decide +kernel
theorem d_C_prefix_73 : decode b_C_prefix 73 = .ok (.getfield 36, 3) := by decide +kernel
theorem d_C_prefix_76 : decode b_C_prefix 76 = .ok (.iload_n 1, 1) := by decide +kernel
theorem d_C_prefix_77 : decode b_C_prefix 77 = .ok (.iload_n 2, 1) := by decide +kernel
theorem d_C_prefix_78 : decode b_C_prefix 78 = .ok (.invokevirtual 151, 3) := by decide +kernel
theorem d_C_prefix_81 : decode b_C_prefix 81 = .ok (.iconst 1, 1) := by decide +kernel
theorem d_C_prefix_82 : decode b_C_prefix 82 = .ok (.ireturn, 1) := by decide +kernel
theorem d_C_space_0 : decode b_C_space 0 = .ok (.aload_n 0, 1) := by decide +kernel
theorem d_C_space_1 : decode b_C_space 1 = .ok (.iload_n 1, 1) := by decide +kernel
theorem d_C_space_2 : decode b_C_space 2 = .ok (.invokevirtual 131, 3) := by decide +kernel
theorem d_C_space_5 : decode b_C_space 5 = .ok (.aload_n 0, 1) := by decide +kernel
theorem d_C_space_6 : decode b_C_space 6 = .ok (.getfield 36, 3) := by decide +kernel
theorem d_C_space_9 : decode b_C_space 9 = .ok (.iload_n 1, 1) := by decide +kernel
theorem d_C_space_10 : decode b_C_space 10 = .ok (.invokevirtual 155, 3) := by decide +kernel
theorem d_C_space_13 : decode b_C_space 13 = .ok (.ireturn, 1) := by decide +kernel
theorem d_C_best_0 : decode b_C_best 0 = .ok (.aload_n 0, 1) := by decide +kernel
theorem d_C_best_1 : decode b_C_best 1 = .ok (.iload_n 1, 1) := by decide +kernel
theorem d_C_best_2 : decode b_C_best 2 = .ok (.invokevirtual 131, 3) := by decide +kernel
theorem d_C_best_5 : decode b_C_best 5 = .ok (.aload_n 0, 1) := by decide +kernel
theorem d_C_best_6 : decode b_C_best 6 = .ok (.getfield 36, 3) := by decide +kernel
theorem d_C_best_9 : decode b_C_best 9 = .ok (.aload_n 0, 1) := by decide +kernel
theorem d_C_best_10 : decode b_C_best 10 = .ok (.getfield 36, 3) := by decide +kernel
theorem d_C_best_13 : decode b_C_best 13 = .ok (.iload_n 1, 1) := by decide +kernel
theorem d_C_best_14 : decode b_C_best 14 = .ok (.invokevirtual 155, 3) := by decide +kernel
theorem d_C_best_17 : decode b_C_best 17 = .ok (.invokevirtual 158, 3) := by decide +kernel
theorem d_C_best_20 : decode b_C_best 20 = .ok (.ireturn, 1) := by decide +kernel
theorem d_C_propose_0 : decode b_C_propose 0 = .ok (.aload_n 0, 1) := by decide +kernel
theorem d_C_propose_1 : decode b_C_propose 1 = .ok (.iload_n 1, 1) := by decide +kernel
theorem d_C_propose_2 : decode b_C_propose 2 = .ok (.invokevirtual 131, 3) := by decide +kernel
theorem d_C_propose_5 : decode b_C_propose 5 = .ok (.aload_n 0, 1) := by decide +kernel
theorem d_C_propose_6 : decode b_C_propose 6 = .ok (.aload_n 0, 1) := by decide +kernel
theorem d_C_propose_7 : decode b_C_propose 7 = .ok (.getfield 27, 3) := by decide +kernel
theorem d_C_propose_10 : decode b_C_propose 10 = .ok (.iload_n 1, 1) := by decide +kernel
theorem d_C_propose_11 : decode b_C_propose 11 = .ok (.invokevirtual 134, 3) := by decide +kernel
theorem d_C_propose_14 : decode b_C_propose 14 = .ok (.invokevirtual 161, 3) := by decide +kernel
theorem d_C_propose_17 : decode b_C_propose 17 = .ok (.aload_n 0, 1) := by decide +kernel
theorem d_C_propose_18 : decode b_C_propose 18 = .ok (.getfield 21, 3) := by decide +kernel
theorem d_C_propose_21 : decode b_C_propose 21 = .ok (.invokevirtual 109, 3) := by decide +kernel
theorem d_C_propose_24 : decode b_C_propose 24 = .ok (.iconst 4, 1) := by decide +kernel
theorem d_C_propose_25 : decode b_C_propose 25 = .ok (.invokestatic 165, 3) := by decide +kernel
theorem d_C_propose_28 : decode b_C_propose 28 = .ok (.istore_n 2, 1) := by decide +kernel
theorem d_C_propose_29 : decode b_C_propose 29 = .ok (.iconst 1, 1) := by decide +kernel
theorem d_C_propose_30 : decode b_C_propose 30 = .ok (.istore_n 3, 1) := by decide +kernel
theorem d_C_propose_31 : decode b_C_propose 31 = .ok (.iload_n 3, 1) := by decide +kernel
theorem d_C_propose_32 : decode b_C_propose 32 = .ok (.iload_n 2, 1) := by decide +kernel
theorem d_C_propose_33 : decode b_C_propose 33 = .ok (.if_icmp .gt 51, 3) := by decide +kernel
theorem d_C_propose_36 : decode b_C_propose 36 = .ok (.aload_n 0, 1) := by decide +kernel
theorem d_C_propose_37 : decode b_C_propose 37 = .ok (.getfield 18, 3) := by decide +kernel
theorem d_C_propose_40 : decode b_C_propose 40 = .ok (.invokevirtual 113, 3) := by decide +kernel
theorem d_C_propose_43 : decode b_C_propose 43 = .ok (.aload_n 0, 1) := by decide +kernel
theorem d_C_propose_44 : decode b_C_propose 44 = .ok (.getfield 18, 3) := by decide +kernel
theorem d_C_propose_47 : decode b_C_propose 47 = .ok (.aload_n 0, 1) := by decide +kernel
theorem d_C_propose_48 : decode b_C_propose 48 = .ok (.getfield 21, 3) := by decide +kernel
theorem d_C_propose_51 : decode b_C_propose 51 = .ok (.iconst 0, 1) := by decide +kernel
theorem d_C_propose_52 : decode b_C_propose 52 = .ok (.iload_n 3, 1) := by decide +kernel
theorem d_C_propose_53 : decode b_C_propose 53 = .ok (.invokevirtual 171, 3) := by decide +kernel
theorem d_C_propose_56 : decode b_C_propose 56 = .ok (.aload_n 0, 1) := by decide +kernel
theorem d_C_propose_57 : decode b_C_propose 57 = .ok (.getfield 36, 3) := by decide +kernel
theorem d_C_propose_60 : decode b_C_propose 60 = .ok (.aload_n 0, 1) := by decide +kernel
theorem d_C_propose_61 : decode b_C_propose 61 = .ok (.getfield 18, 3) := by decide +kernel
theorem d_C_propose_64 : decode b_C_propose 64 = .ok (.invokevirtual 175, 3) := by decide +kernel
theorem d_C_propose_67 : decode b_C_propose 67 = .ok (.ifCond .ne 11, 3) := by decide +kernel
theorem d_C_propose_70 : decode b_C_propose 70 = .ok (.aload_n 0, 1) := by decide +kernel
theorem d_C_propose_71 : decode b_C_propose 71 = .ok (.getfield 18, 3) := by decide +kernel
theorem d_C_propose_74 : decode b_C_propose 74 = .ok (.invokevirtual 109, 3) := by decide +kernel
theorem d_C_propose_77 : decode b_C_propose 77 = .ok (.ireturn, 1) := by decide +kernel
theorem d_C_propose_78 : decode b_C_propose 78 = .ok (.iinc 3 1, 3) := by decide +kernel
theorem d_C_propose_81 : decode b_C_propose 81 = .ok (.goto (-50), 3) := by decide +kernel
theorem d_C_propose_84 : decode b_C_propose 84 = .ok (.iconst 1, 1) := by decide +kernel
theorem d_C_propose_85 : decode b_C_propose 85 = .ok (.istore_n 3, 1) := by decide +kernel
theorem d_C_propose_86 : decode b_C_propose 86 = .ok (.iload_n 3, 1) := by decide +kernel
theorem d_C_propose_87 : decode b_C_propose 87 = .ok (.bipush 99, 2) := by decide +kernel
theorem d_C_propose_89 : decode b_C_propose 89 = .ok (.if_icmp .gt 56, 3) := by decide +kernel
theorem d_C_propose_92 : decode b_C_propose 92 = .ok (.aload_n 0, 1) := by decide +kernel
theorem d_C_propose_93 : decode b_C_propose 93 = .ok (.getfield 18, 3) := by decide +kernel
theorem d_C_propose_96 : decode b_C_propose 96 = .ok (.invokevirtual 113, 3) := by decide +kernel
theorem d_C_propose_99 : decode b_C_propose 99 = .ok (.aload_n 0, 1) := by decide +kernel
theorem d_C_propose_100 : decode b_C_propose 100 = .ok (.getfield 18, 3) := by decide +kernel
theorem d_C_propose_103 : decode b_C_propose 103 = .ok (.aload_n 0, 1) := by decide +kernel
theorem d_C_propose_104 : decode b_C_propose 104 = .ok (.getfield 21, 3) := by decide +kernel
theorem d_C_propose_107 : decode b_C_propose 107 = .ok (.iconst 0, 1) := by decide +kernel
theorem d_C_propose_108 : decode b_C_propose 108 = .ok (.invokevirtual 179, 3) := by decide +kernel
theorem d_C_propose_111 : decode b_C_propose 111 = .ok (.invokevirtual 105, 3) := by decide +kernel
theorem d_C_propose_114 : decode b_C_propose 114 = .ok (.aload_n 0, 1) := by decide +kernel
theorem d_C_propose_115 : decode b_C_propose 115 = .ok (.getfield 18, 3) := by decide +kernel
theorem d_C_propose_118 : decode b_C_propose 118 = .ok (.iload_n 3, 1) := by decide +kernel
theorem d_C_propose_119 : decode b_C_propose 119 = .ok (.invokevirtual 183, 3) := by decide +kernel
theorem d_C_propose_122 : decode b_C_propose 122 = .ok (.aload_n 0, 1) := by decide +kernel
theorem d_C_propose_123 : decode b_C_propose 123 = .ok (.getfield 36, 3) := by decide +kernel
theorem d_C_propose_126 : decode b_C_propose 126 = .ok (.aload_n 0, 1) := by decide +kernel
theorem d_C_propose_127 : decode b_C_propose 127 = .ok (.getfield 18, 3) := by decide +kernel
theorem d_C_propose_130 : decode b_C_propose 130 = .ok (.invokevirtual 175, 3) := by decide +kernel
theorem d_C_propose_133 : decode b_C_propose 133 = .ok (.ifCond .ne 6, 3) := by decide +kernel
theorem d_C_propose_136 : decode b_C_propose 136 = .ok (.goto 9, 3) := by decide +kernel
theorem d_C_propose_139 : decode b_C_propose 139 = .ok (.iinc 3 1, 3) := by decide +kernel
theorem d_C_propose_142 : decode b_C_propose 142 = .ok (.goto (-56), 3) := by decide +kernel
theorem d_C_propose_145 : decode b_C_propose 145 = .ok (.aload_n 0, 1) := by decide +kernel
theorem d_C_propose_146 : decode b_C_propose 146 = .ok (.getfield 18, 3) := by decide +kernel
theorem d_C_propose_149 : decode b_C_propose 149 = .ok (.invokevirtual 109, 3) := by decide +kernel
theorem d_C_propose_152 : decode b_C_propose 152 = .ok (.ireturn, 1) := by decide +kernel
theorem d_C_print_0 : decode b_C_print 0 = .ok (.aload_n 0, 1) := by decide +kernel
theorem d_C_print_1 : decode b_C_print 1 = .ok (.iload_n 1, 1) := by decide +kernel
theorem d_C_print_2 : decode b_C_print 2 = .ok (.invokevirtual 131, 3) := by decide +kernel
theorem d_C_print_5 : decode b_C_print 5 = .ok (.aload_n 0, 1) := by decide +kernel
theorem d_C_print_6 : decode b_C_print 6 = .ok (.getfield 27, 3) := by decide +kernel
theorem d_C_print_9 : decode b_C_print 9 = .ok (.iload_n 1, 1) := by decide +kernel
theorem d_C_print_10 : decode b_C_print 10 = .ok (.invokevirtual 134, 3) := by decide +kernel
theorem d_C_print_13 : decode b_C_print 13 = .ok (.astore_n 2, 1) := by decide +kernel
theorem d_C_print_14 : decode b_C_print 14 = .ok (.aload_n 0, 1) := by decide +kernel
theorem d_C_print_15 : decode b_C_print 15 = .ok (.getfield 36, 3) := by decide +kernel
theorem d_C_print_18 : decode b_C_print 18 = .ok (.iload_n 1, 1) := by decide +kernel
theorem d_C_print_19 : decode b_C_print 19 = .ok (.invokevirtual 155, 3) := by decide +kernel
theorem d_C_print_22 : decode b_C_print 22 = .ok (.istore_n 3, 1) := by decide +kernel
theorem d_C_print_23 : decode b_C_print 23 = .ok (.aload_n 0, 1) := by decide +kernel
theorem d_C_print_24 : decode b_C_print 24 = .ok (.getfield 18, 3) := by decide +kernel
theorem d_C_print_27 : decode b_C_print 27 = .ok (.invokevirtual 113, 3) := by decide +kernel
theorem d_C_print_30 : decode b_C_print 30 = .ok (.iload_n 3, 1) := by decide +kernel
theorem d_C_print_31 : decode b_C_print 31 = .ok (.iconst (-1), 1) := by decide +kernel
theorem d_C_print_32 : decode b_C_print 32 = .ok (.if_icmp .ne 32, 3) := by decide +kernel
theorem d_C_print_35 : decode b_C_print 35 = .ok (.aload_n 0, 1) := by decide +kernel
theorem d_C_print_36 : decode b_C_print 36 = .ok (.getfield 18, 3) := by decide +kernel
theorem d_C_print_39 : decode b_C_print 39 = .ok (.bipush 60, 2) := by decide +kernel
theorem d_C_print_41 : decode b_C_print 41 = .ok (.invokevirtual 105, 3) := by decide +kernel
theorem d_C_print_44 : decode b_C_print 44 = .ok (.aload_n 0, 1) := by decide +kernel
theorem d_C_print_45 : decode b_C_print 45 = .ok (.getfield 18, 3) := by decide +kernel
theorem d_C_print_48 : decode b_C_print 48 = .ok (.aload_n 2, 1) := by decide +kernel
theorem d_C_print_49 : decode b_C_print 49 = .ok (.invokevirtual 186, 3) := by decide +kernel
theorem d_C_print_52 : decode b_C_print 52 = .ok (.aload_n 0, 1) := by decide +kernel
theorem d_C_print_53 : decode b_C_print 53 = .ok (.getfield 18, 3) := by decide +kernel
theorem d_C_print_56 : decode b_C_print 56 = .ok (.bipush 62, 2) := by decide +kernel
theorem d_C_print_58 : decode b_C_print 58 = .ok (.invokevirtual 105, 3) := by decide +kernel
theorem d_C_print_61 : decode b_C_print 61 = .ok (.goto 57, 3) := by decide +kernel
theorem d_C_print_64 : decode b_C_print 64 = .ok (.aload_n 0, 1) := by decide +kernel
theorem d_C_print_65 : decode b_C_print 65 = .ok (.getfield 18, 3) := by decide +kernel
theorem d_C_print_68 : decode b_C_print 68 = .ok (.aload_n 0, 1) := by decide +kernel
theorem d_C_print_69 : decode b_C_print 69 = .ok (.getfield 27, 3) := by decide +kernel
theorem d_C_print_72 : decode b_C_print 72 = .ok (.aload_n 0, 1) := by decide +kernel
theorem d_C_print_73 : decode b_C_print 73 = .ok (.getfield 36, 3) := by decide +kernel
theorem d_C_print_76 : decode b_C_print 76 = .ok (.iload_n 3, 1) := by decide +kernel
theorem d_C_print_77 : decode b_C_print 77 = .ok (.invokevirtual 158, 3) := by decide +kernel
theorem d_C_print_80 : decode b_C_print 80 = .ok (.invokevirtual 134, 3) := by decide +kernel
theorem d_C_print_83 : decode b_C_print 83 = .ok (.invokevirtual 186, 3) := by decide +kernel
theorem d_C_print_86 : decode b_C_print 86 = .ok (.aload_n 0, 1) := by decide +kernel
theorem d_C_print_87 : decode b_C_print 87 = .ok (.getfield 18, 3) := by decide +kernel
theorem d_C_print_90 : decode b_C_print 90 = .ok (.bipush 58, 2) := by decide +kernel
theorem d_C_print_92 : decode b_C_print 92 = .ok (.invokevirtual 105, 3) := by decide +kernel
theorem d_C_print_95 : decode b_C_print 95 = .ok (.aload_n 0, 1) := by decide +kernel
theorem d_C_print_96 : decode b_C_print 96 = .ok (.getfield 18, 3) := by decide +kernel
theorem d_C_print_99 : decode b_C_print 99 = .ok (.aload_n 2, 1) := by decide +kernel
theorem d_C_print_100 : decode b_C_print 100 = .ok (.aload_n 0, 1) := by decide +kernel
theorem d_C_print_101 : decode b_C_print 101 = .ok (.getfield 27, 3) := by decide +kernel
theorem d_C_print_104 : decode b_C_print 104 = .ok (.iload_n 3, 1) := by decide +kernel
theorem d_C_print_105 : decode b_C_print 105 = .ok (.invokevirtual 134, 3) := by decide +kernel
theorem d_C_print_108 : decode b_C_print 108 = .ok (.invokevirtual 109, 3) := by decide +kernel
theorem d_C_print_111 : decode b_C_print 111 = .ok (.aload_n 2, 1) := by decide +kernel
theorem d_C_print_112 : decode b_C_print 112 = .ok (.invokevirtual 109, 3) := by decide +kernel
theorem d_C_print_115 : decode b_C_print 115 = .ok (.invokevirtual 171, 3) := by decide +kernel
theorem d_C_print_118 : decode b_C_print 118 = .ok (.aload_n 0, 1) := by decide +kernel
theorem d_C_print_119 : decode b_C_print 119 = .ok (.getfield 18, 3) := by decide +kernel
theorem d_C_print_122 : decode b_C_print 122 = .ok (.invokevirtual 109, 3) := by decide +kernel
theorem d_C_print_125 : decode b_C_print 125 = .ok (.ireturn, 1) := by decide +kernel
theorem d_C_letter_0 : decode b_C_letter 0 = .ok (.aload_n 0, 1) := by decide +kernel
theorem d_C_letter_1 : decode b_C_letter 1 = .ok (.getfield 18, 3) := by decide +kernel
theorem d_C_letter_4 : decode b_C_letter 4 = .ok (.iload_n 1, 1) := by decide +kernel
theorem d_C_letter_5 : decode b_C_letter 5 = .ok (.invokevirtual 179, 3) := by decide +kernel
theorem d_C_letter_8 : decode b_C_letter 8 = .ok (.ireturn, 1) := by decide +kernel
theorem d_C_row_0 : decode b_C_row 0 = .ok (.aload_n 0, 1) := by decide +kernel
theorem d_C_row_1 : decode b_C_row 1 = .ok (.iload_n 1, 1) := by decide +kernel
theorem d_C_row_2 : decode b_C_row 2 = .ok (.invokevirtual 131, 3) := by decide +kernel
theorem d_C_row_5 : decode b_C_row 5 = .ok (.aload_n 0, 1) := by decide +kernel
theorem d_C_row_6 : decode b_C_row 6 = .ok (.iload_n 2, 1) := by decide +kernel
theorem d_C_row_7 : decode b_C_row 7 = .ok (.invokevirtual 131, 3) := by decide +kernel
theorem d_C_row_10 : decode b_C_row 10 = .ok (.aload_n 0, 1) := by decide +kernel
theorem d_C_row_11 : decode b_C_row 11 = .ok (.iload_n 3, 1) := by decide +kernel
theorem d_C_row_12 : decode b_C_row 12 = .ok (.invokevirtual 131, 3) := by decide +kernel
theorem d_C_row_15 : decode b_C_row 15 = .ok (.aload_n 0, 1) := by decide +kernel
theorem d_C_row_16 : decode b_C_row 16 = .ok (.getfield 36, 3) := by decide +kernel
theorem d_C_row_19 : decode b_C_row 19 = .ok (.iload_n 1, 1) := by decide +kernel
theorem d_C_row_20 : decode b_C_row 20 = .ok (.invokevirtual 155, 3) := by decide +kernel
theorem d_C_row_23 : decode b_C_row 23 = .ok (.iconst (-1), 1) := by decide +kernel
theorem d_C_row_24 : decode b_C_row 24 = .ok (.if_icmp .ne 13, 3) := by decide +kernel
theorem d_C_row_27 : decode b_C_row 27 = .ok (.new 189, 3) := by decide +kernel
theorem d_C_row_30 : decode b_C_row 30 = .ok (.dup, 1) := by decide +kernel
theorem d_C_row_31 : decode b_C_row 31 = .ok (.ldc 191, 2) := by decide +kernel
theorem d_C_row_33 : decode b_C_row 33 = .ok (.invokespecial 193, 3) := by decide +kernel
theorem d_C_row_36 : decode b_C_row 36 = .ok (.athrow, 1) := by decide +kernel
theorem d_C_row_37 : decode b_C_row 37 = .ok (.aload_n 0, 1) := by decide +kernel
theorem d_C_row_38 : decode b_C_row 38 = .ok (.getfield 43, 3) := by decide +kernel
theorem d_C_row_41 : decode b_C_row 41 = .ok (.iload_n 1, 1) := by decide +kernel
theorem d_C_row_42 : decode b_C_row 42 = .ok (.invokevirtual 194, 3) := by decide +kernel
theorem d_C_row_45 : decode b_C_row 45 = .ok (.istore 4, 2) := by decide +kernel
theorem d_C_row_47 : decode b_C_row 47 = .ok (.iload 4, 2) := by decide +kernel
theorem d_C_row_49 : decode b_C_row 49 = .ok (.iconst (-1), 1) := by decide +kernel
theorem d_C_row_50 : decode b_C_row 50 = .ok (.if_icmp .eq 16, 3) := by decide +kernel
theorem d_C_row_53 : decode b_C_row 53 = .ok (.aload_n 0, 1) := by decide +kernel
theorem d_C_row_54 : decode b_C_row 54 = .ok (.iconst 2, 1) := by decide +kernel
theorem d_C_row_55 : decode b_C_row 55 = .ok (.iload 4, 2) := by decide +kernel
theorem d_C_row_57 : decode b_C_row 57 = .ok (.iload_n 1, 1) := by decide +kernel
theorem d_C_row_58 : decode b_C_row 58 = .ok (.invokevirtual 147, 3) := by decide +kernel
theorem d_C_row_61 : decode b_C_row 61 = .ok (.iconst (-1), 1) := by decide +kernel
theorem d_C_row_62 : decode b_C_row 62 = .ok (.iload 4, 2) := by decide +kernel
theorem d_C_row_64 : decode b_C_row 64 = .ok (.isub, 1) := by decide +kernel
theorem d_C_row_65 : decode b_C_row 65 = .ok (.ireturn, 1) := by decide +kernel
theorem d_C_row_66 : decode b_C_row 66 = .ok (.aload_n 0, 1) := by decide +kernel
theorem d_C_row_67 : decode b_C_row 67 = .ok (.getfield 43, 3) := by decide +kernel
theorem d_C_row_70 : decode b_C_row 70 = .ok (.invokevirtual 197, 3) := by decide +kernel
theorem d_C_row_73 : decode b_C_row 73 = .ok (.ifCond .eq 13, 3) := by decide +kernel
theorem d_C_row_76 : decode b_C_row 76 = .ok (.new 100, 3) := by decide +kernel
theorem d_C_row_79 : decode b_C_row 79 = .ok (.dup, 1) := by decide +kernel
theorem d_C_row_80 : decode b_C_row 80 = .ok (.ldc 198, 2) := by decide +kernel
theorem d_C_row_82 : decode b_C_row 82 = .ok (.invokespecial 104, 3) := by decide +kernel
theorem d_C_row_85 : decode b_C_row 85 = .ok (.athrow, 1) := by decide +kernel
theorem d_C_row_86 : decode b_C_row 86 = .ok (.aload_n 0, 1) := by decide +kernel
theorem d_C_row_87 : decode b_C_row 87 = .ok (.getfield 43, 3) := by decide +kernel
theorem d_C_row_90 : decode b_C_row 90 = .ok (.iload_n 1, 1) := by decide +kernel
theorem d_C_row_91 : decode b_C_row 91 = .ok (.iload_n 2, 1) := by decide +kernel
theorem d_C_row_92 : decode b_C_row 92 = .ok (.iload_n 3, 1) := by decide +kernel
theorem d_C_row_93 : decode b_C_row 93 = .ok (.invokevirtual 200, 3) := by decide +kernel
theorem d_C_row_96 : decode b_C_row 96 = .ok (.ireturn, 1) := by decide +kernel
theorem d_C_told_0 : decode b_C_told 0 = .ok (.aload_n 0, 1) := by decide +kernel
theorem d_C_told_1 : decode b_C_told 1 = .ok (.getfield 43, 3) := by decide +kernel
theorem d_C_told_4 : decode b_C_told 4 = .ok (.iload_n 1, 1) := by decide +kernel
theorem d_C_told_5 : decode b_C_told 5 = .ok (.invokevirtual 203, 3) := by decide +kernel
theorem d_C_told_8 : decode b_C_told 8 = .ok (.ifCond .ne 13, 3) := by decide +kernel
theorem d_C_told_11 : decode b_C_told 11 = .ok (.new 207, 3) := by decide +kernel
theorem d_C_told_14 : decode b_C_told 14 = .ok (.dup, 1) := by decide +kernel
theorem d_C_told_15 : decode b_C_told 15 = .ok (.ldc 209, 2) := by decide +kernel
theorem d_C_told_17 : decode b_C_told 17 = .ok (.invokespecial 211, 3) := by decide +kernel
theorem d_C_told_20 : decode b_C_told 20 = .ok (.athrow, 1) := by decide +kernel
theorem d_C_told_21 : decode b_C_told 21 = .ok (.iload_n 2, 1) := by decide +kernel
theorem d_C_told_22 : decode b_C_told 22 = .ok (.ifCond .lt 8, 3) := by decide +kernel
theorem d_C_told_25 : decode b_C_told 25 = .ok (.iload_n 2, 1) := by decide +kernel
theorem d_C_told_26 : decode b_C_told 26 = .ok (.iconst 3, 1) := by decide +kernel
theorem d_C_told_27 : decode b_C_told 27 = .ok (.if_icmp .lt 13, 3) := by decide +kernel
theorem d_C_told_30 : decode b_C_told 30 = .ok (.new 89, 3) := by decide +kernel
theorem d_C_told_33 : decode b_C_told 33 = .ok (.dup, 1) := by decide +kernel
theorem d_C_told_34 : decode b_C_told 34 = .ok (.ldc 212, 2) := by decide +kernel
theorem d_C_told_36 : decode b_C_told 36 = .ok (.invokespecial 93, 3) := by decide +kernel
theorem d_C_told_39 : decode b_C_told 39 = .ok (.athrow, 1) := by decide +kernel
theorem d_C_told_40 : decode b_C_told 40 = .ok (.aload_n 0, 1) := by decide +kernel
theorem d_C_told_41 : decode b_C_told 41 = .ok (.getfield 43, 3) := by decide +kernel
theorem d_C_told_44 : decode b_C_told 44 = .ok (.iload_n 1, 1) := by decide +kernel
theorem d_C_told_45 : decode b_C_told 45 = .ok (.iload_n 2, 1) := by decide +kernel
theorem d_C_told_46 : decode b_C_told 46 = .ok (.invokevirtual 214, 3) := by decide +kernel
theorem d_C_told_49 : decode b_C_told 49 = .ok (.ireturn, 1) := by decide +kernel
theorem d_C_document_0 : decode b_C_document 0 = .ok (.aload_n 0, 1) := by decide +kernel
theorem d_C_document_1 : decode b_C_document 1 = .ok (.iload_n 1, 1) := by decide +kernel
theorem d_C_document_2 : decode b_C_document 2 = .ok (.invokevirtual 131, 3) := by decide +kernel
theorem d_C_document_5 : decode b_C_document 5 = .ok (.aload_n 0, 1) := by decide +kernel
theorem d_C_document_6 : decode b_C_document 6 = .ok (.iload_n 2, 1) := by decide +kernel
theorem d_C_document_7 : decode b_C_document 7 = .ok (.invokevirtual 217, 3) := by decide +kernel
theorem d_C_document_10 : decode b_C_document 10 = .ok (.iconst 0, 1) := by decide +kernel
theorem d_C_document_11 : decode b_C_document 11 = .ok (.istore_n 3, 1) := by decide +kernel
theorem d_C_document_12 : decode b_C_document 12 = .ok (.iload_n 3, 1) := by decide +kernel
theorem d_C_document_13 : decode b_C_document 13 = .ok (.aload_n 0, 1) := by decide +kernel
theorem d_C_document_14 : decode b_C_document 14 = .ok (.getfield 43, 3) := by decide +kernel
theorem d_C_document_17 : decode b_C_document 17 = .ok (.invokevirtual 220, 3) := by decide +kernel
theorem d_C_document_20 : decode b_C_document 20 = .ok (.if_icmp .ge 30, 3) := by decide +kernel
theorem d_C_document_23 : decode b_C_document 23 = .ok (.aload_n 0, 1) := by decide +kernel
theorem d_C_document_24 : decode b_C_document 24 = .ok (.iload_n 3, 1) := by decide +kernel
theorem d_C_document_25 : decode b_C_document 25 = .ok (.iload_n 1, 1) := by decide +kernel
theorem d_C_document_26 : decode b_C_document 26 = .ok (.invokevirtual 223, 3) := by decide +kernel
theorem d_C_document_29 : decode b_C_document 29 = .ok (.ifCond .eq 15, 3) := by decide +kernel
theorem d_C_document_32 : decode b_C_document 32 = .ok (.aload_n 0, 1) := by decide +kernel
theorem d_C_document_33 : decode b_C_document 33 = .ok (.iload_n 3, 1) := by decide +kernel
theorem d_C_document_34 : decode b_C_document 34 = .ok (.iload_n 1, 1) := by decide +kernel
theorem d_C_document_35 : decode b_C_document 35 = .ok (.invokevirtual 227, 3) := by decide +kernel
theorem d_C_document_38 : decode b_C_document 38 = .ok (.iload_n 2, 1) := by decide +kernel
theorem d_C_document_39 : decode b_C_document 39 = .ok (.if_icmp .ne 5, 3) := by decide +kernel
theorem d_C_document_42 : decode b_C_document 42 = .ok (.iload_n 3, 1) := by decide +kernel
theorem d_C_document_43 : decode b_C_document 43 = .ok (.ireturn, 1) := by decide +kernel
theorem d_C_document_44 : decode b_C_document 44 = .ok (.iinc 3 1, 3) := by decide +kernel
theorem d_C_document_47 : decode b_C_document 47 = .ok (.goto (-35), 3) := by decide +kernel
theorem d_C_document_50 : decode b_C_document 50 = .ok (.iconst (-1), 1) := by decide +kernel
theorem d_C_document_51 : decode b_C_document 51 = .ok (.ireturn, 1) := by decide +kernel
theorem d_C_use_0 : decode b_C_use 0 = .ok (.aload_n 0, 1) := by decide +kernel
theorem d_C_use_1 : decode b_C_use 1 = .ok (.iload_n 1, 1) := by decide +kernel
theorem d_C_use_2 : decode b_C_use 2 = .ok (.invokevirtual 131, 3) := by decide +kernel
theorem d_C_use_5 : decode b_C_use 5 = .ok (.aload_n 0, 1) := by decide +kernel
theorem d_C_use_6 : decode b_C_use 6 = .ok (.getfield 68, 3) := by decide +kernel
theorem d_C_use_9 : decode b_C_use 9 = .ok (.iload_n 1, 1) := by decide +kernel
theorem d_C_use_10 : decode b_C_use 10 = .ok (.dup2, 1) := by decide +kernel
theorem d_C_use_11 : decode b_C_use 11 = .ok (.iaload, 1) := by decide +kernel
theorem d_C_use_12 : decode b_C_use 12 = .ok (.iconst 1, 1) := by decide +kernel
theorem d_C_use_13 : decode b_C_use 13 = .ok (.iadd, 1) := by decide +kernel
theorem d_C_use_14 : decode b_C_use 14 = .ok (.iastore, 1) := by decide +kernel
theorem d_C_use_15 : decode b_C_use 15 = .ok (.aload_n 0, 1) := by decide +kernel
theorem d_C_use_16 : decode b_C_use 16 = .ok (.getfield 68, 3) := by decide +kernel
theorem d_C_use_19 : decode b_C_use 19 = .ok (.iload_n 1, 1) := by decide +kernel
theorem d_C_use_20 : decode b_C_use 20 = .ok (.iaload, 1) := by decide +kernel
theorem d_C_use_21 : decode b_C_use 21 = .ok (.ireturn, 1) := by decide +kernel
theorem d_C_used_0 : decode b_C_used 0 = .ok (.aload_n 0, 1) := by decide +kernel
theorem d_C_used_1 : decode b_C_used 1 = .ok (.iload_n 1, 1) := by decide +kernel
theorem d_C_used_2 : decode b_C_used 2 = .ok (.invokevirtual 131, 3) := by decide +kernel
theorem d_C_used_5 : decode b_C_used 5 = .ok (.aload_n 0, 1) := by decide +kernel
theorem d_C_used_6 : decode b_C_used 6 = .ok (.getfield 68, 3) := by decide +kernel
theorem d_C_used_9 : decode b_C_used 9 = .ok (.iload_n 1, 1) := by decide +kernel
theorem d_C_used_10 : decode b_C_used 10 = .ok (.iaload, 1) := by decide +kernel
theorem d_C_used_11 : decode b_C_used 11 = .ok (.ireturn, 1) := by decide +kernel
theorem d_C_unknown_0 : decode b_C_unknown 0 = .ok (.aload_n 0, 1) := by decide +kernel
theorem d_C_unknown_1 : decode b_C_unknown 1 = .ok (.iload_n 1, 1) := by decide +kernel
theorem d_C_unknown_2 : decode b_C_unknown 2 = .ok (.invokevirtual 217, 3) := by decide +kernel
theorem d_C_unknown_5 : decode b_C_unknown 5 = .ok (.aload_n 0, 1) := by decide +kernel
theorem d_C_unknown_6 : decode b_C_unknown 6 = .ok (.invokevirtual 230, 3) := by decide +kernel
theorem d_C_unknown_9 : decode b_C_unknown 9 = .ok (.iconst 0, 1) := by decide +kernel
theorem d_C_unknown_10 : decode b_C_unknown 10 = .ok (.istore_n 2, 1) := by decide +kernel
theorem d_C_unknown_11 : decode b_C_unknown 11 = .ok (.iconst 0, 1) := by decide +kernel
theorem d_C_unknown_12 : decode b_C_unknown 12 = .ok (.istore_n 3, 1) := by decide +kernel
theorem d_C_unknown_13 : decode b_C_unknown 13 = .ok (.iload_n 3, 1) := by decide +kernel
theorem d_C_unknown_14 : decode b_C_unknown 14 = .ok (.aload_n 0, 1) := by decide +kernel
theorem d_C_unknown_15 : decode b_C_unknown 15 = .ok (.getfield 27, 3) := by decide +kernel
theorem d_C_unknown_18 : decode b_C_unknown 18 = .ok (.invokevirtual 233, 3) := by decide +kernel
theorem d_C_unknown_21 : decode b_C_unknown 21 = .ok (.if_icmp .ge 27, 3) := by decide +kernel
theorem d_C_unknown_24 : decode b_C_unknown 24 = .ok (.aload_n 0, 1) := by decide +kernel
theorem d_C_unknown_25 : decode b_C_unknown 25 = .ok (.iload_n 3, 1) := by decide +kernel
theorem d_C_unknown_26 : decode b_C_unknown 26 = .ok (.invokevirtual 234, 3) := by decide +kernel
theorem d_C_unknown_29 : decode b_C_unknown 29 = .ok (.ifCond .eq 13, 3) := by decide +kernel
theorem d_C_unknown_32 : decode b_C_unknown 32 = .ok (.iload_n 2, 1) := by decide +kernel
theorem d_C_unknown_33 : decode b_C_unknown 33 = .ok (.iload_n 1, 1) := by decide +kernel
theorem d_C_unknown_34 : decode b_C_unknown 34 = .ok (.if_icmp .ne 5, 3) := by decide +kernel
theorem d_C_unknown_37 : decode b_C_unknown 37 = .ok (.iload_n 3, 1) := by decide +kernel
theorem d_C_unknown_38 : decode b_C_unknown 38 = .ok (.ireturn, 1) := by decide +kernel
theorem d_C_unknown_39 : decode b_C_unknown 39 = .ok (.iinc 2 1, 3) := by decide +kernel
theorem d_C_unknown_42 : decode b_C_unknown 42 = .ok (.iinc 3 1, 3) := by decide +kernel
theorem d_C_unknown_45 : decode b_C_unknown 45 = .ok (.goto (-32), 3) := by decide +kernel
theorem d_C_unknown_48 : decode b_C_unknown 48 = .ok (.iconst (-1), 1) := by decide +kernel
theorem d_C_unknown_49 : decode b_C_unknown 49 = .ok (.ireturn, 1) := by decide +kernel
theorem d_C_apart_0 : decode b_C_apart 0 = .ok (.aload_n 0, 1) := by decide +kernel
theorem d_C_apart_1 : decode b_C_apart 1 = .ok (.iload_n 1, 1) := by decide +kernel
theorem d_C_apart_2 : decode b_C_apart 2 = .ok (.invokevirtual 131, 3) := by decide +kernel
theorem d_C_apart_5 : decode b_C_apart 5 = .ok (.aload_n 0, 1) := by decide +kernel
theorem d_C_apart_6 : decode b_C_apart 6 = .ok (.iload_n 2, 1) := by decide +kernel
theorem d_C_apart_7 : decode b_C_apart 7 = .ok (.invokevirtual 131, 3) := by decide +kernel
theorem d_C_apart_10 : decode b_C_apart 10 = .ok (.aload_n 0, 1) := by decide +kernel
theorem d_C_apart_11 : decode b_C_apart 11 = .ok (.getfield 64, 3) := by decide +kernel
theorem d_C_apart_14 : decode b_C_apart 14 = .ok (.aload_n 0, 1) := by decide +kernel
theorem d_C_apart_15 : decode b_C_apart 15 = .ok (.getfield 27, 3) := by decide +kernel
theorem d_C_apart_18 : decode b_C_apart 18 = .ok (.iload_n 1, 1) := by decide +kernel
theorem d_C_apart_19 : decode b_C_apart 19 = .ok (.invokevirtual 134, 3) := by decide +kernel
theorem d_C_apart_22 : decode b_C_apart 22 = .ok (.aload_n 0, 1) := by decide +kernel
theorem d_C_apart_23 : decode b_C_apart 23 = .ok (.getfield 27, 3) := by decide +kernel
theorem d_C_apart_26 : decode b_C_apart 26 = .ok (.iload_n 2, 1) := by decide +kernel
theorem d_C_apart_27 : decode b_C_apart 27 = .ok (.invokevirtual 134, 3) := by decide +kernel
theorem d_C_apart_30 : decode b_C_apart 30 = .ok (.invokevirtual 237, 3) := by decide +kernel
theorem d_C_apart_33 : decode b_C_apart 33 = .ok (.ireturn, 1) := by decide +kernel
theorem d_C_near_0 : decode b_C_near 0 = .ok (.aload_n 0, 1) := by decide +kernel
theorem d_C_near_1 : decode b_C_near 1 = .ok (.iload_n 1, 1) := by decide +kernel
theorem d_C_near_2 : decode b_C_near 2 = .ok (.invokevirtual 131, 3) := by decide +kernel
theorem d_C_near_5 : decode b_C_near 5 = .ok (.aload_n 0, 1) := by decide +kernel
theorem d_C_near_6 : decode b_C_near 6 = .ok (.iload_n 2, 1) := by decide +kernel
theorem d_C_near_7 : decode b_C_near 7 = .ok (.invokevirtual 217, 3) := by decide +kernel
theorem d_C_near_10 : decode b_C_near 10 = .ok (.aload_n 0, 1) := by decide +kernel
theorem d_C_near_11 : decode b_C_near 11 = .ok (.iload_n 1, 1) := by decide +kernel
theorem d_C_near_12 : decode b_C_near 12 = .ok (.invokevirtual 241, 3) := by decide +kernel
theorem d_C_near_15 : decode b_C_near 15 = .ok (.iconst 0, 1) := by decide +kernel
theorem d_C_near_16 : decode b_C_near 16 = .ok (.istore_n 3, 1) := by decide +kernel
theorem d_C_near_17 : decode b_C_near 17 = .ok (.iload_n 3, 1) := by decide +kernel
theorem d_C_near_18 : decode b_C_near 18 = .ok (.aload_n 0, 1) := by decide +kernel
theorem d_C_near_19 : decode b_C_near 19 = .ok (.getfield 43, 3) := by decide +kernel
theorem d_C_near_22 : decode b_C_near 22 = .ok (.invokevirtual 220, 3) := by decide +kernel
theorem d_C_near_25 : decode b_C_near 25 = .ok (.if_icmp .ge 20, 3) := by decide +kernel
theorem d_C_near_28 : decode b_C_near 28 = .ok (.aload_n 0, 1) := by decide +kernel
theorem d_C_near_29 : decode b_C_near 29 = .ok (.iload_n 3, 1) := by decide +kernel
theorem d_C_near_30 : decode b_C_near 30 = .ok (.invokevirtual 244, 3) := by decide +kernel
theorem d_C_near_33 : decode b_C_near 33 = .ok (.iload_n 2, 1) := by decide +kernel
theorem d_C_near_34 : decode b_C_near 34 = .ok (.if_icmp .ne 5, 3) := by decide +kernel
theorem d_C_near_37 : decode b_C_near 37 = .ok (.iload_n 3, 1) := by decide +kernel
theorem d_C_near_38 : decode b_C_near 38 = .ok (.ireturn, 1) := by decide +kernel
theorem d_C_near_39 : decode b_C_near 39 = .ok (.iinc 3 1, 3) := by decide +kernel
theorem d_C_near_42 : decode b_C_near 42 = .ok (.goto (-25), 3) := by decide +kernel
theorem d_C_near_45 : decode b_C_near 45 = .ok (.iconst (-1), 1) := by decide +kernel
theorem d_C_near_46 : decode b_C_near 46 = .ok (.ireturn, 1) := by decide +kernel
theorem d_C_alias_0 : decode b_C_alias 0 = .ok (.aload_n 0, 1) := by decide +kernel
theorem d_C_alias_1 : decode b_C_alias 1 = .ok (.iload_n 1, 1) := by decide +kernel
theorem d_C_alias_2 : decode b_C_alias 2 = .ok (.invokevirtual 131, 3) := by decide +kernel
theorem d_C_alias_5 : decode b_C_alias 5 = .ok (.aload_n 0, 1) := by decide +kernel
theorem d_C_alias_6 : decode b_C_alias 6 = .ok (.iload_n 2, 1) := by decide +kernel
theorem d_C_alias_7 : decode b_C_alias 7 = .ok (.invokevirtual 131, 3) := by decide +kernel
theorem d_C_alias_10 : decode b_C_alias 10 = .ok (.iload_n 1, 1) := by decide +kernel
theorem d_C_alias_11 : decode b_C_alias 11 = .ok (.iload_n 2, 1) := by decide +kernel
theorem d_C_alias_12 : decode b_C_alias 12 = .ok (.if_icmp .eq 15, 3) := by decide +kernel
theorem d_C_alias_15 : decode b_C_alias 15 = .ok (.aload_n 0, 1) := by decide +kernel
theorem d_C_alias_16 : decode b_C_alias 16 = .ok (.getfield 50, 3) := by decide +kernel
theorem d_C_alias_19 : decode b_C_alias 19 = .ok (.iload_n 2, 1) := by decide +kernel
theorem d_C_alias_20 : decode b_C_alias 20 = .ok (.iload_n 1, 1) := by decide +kernel
theorem d_C_alias_21 : decode b_C_alias 21 = .ok (.invokevirtual 247, 3) := by decide +kernel
theorem d_C_alias_24 : decode b_C_alias 24 = .ok (.ifCond .eq 12, 3) := by decide +kernel
theorem d_C_alias_27 : decode b_C_alias 27 = .ok (.aload_n 0, 1) := by decide +kernel
theorem d_C_alias_28 : decode b_C_alias 28 = .ok (.iconst 3, 1) := by decide +kernel
theorem d_C_alias_29 : decode b_C_alias 29 = .ok (.iload_n 1, 1) := by decide +kernel
theorem d_C_alias_30 : decode b_C_alias 30 = .ok (.iload_n 2, 1) := by decide +kernel
theorem d_C_alias_31 : decode b_C_alias 31 = .ok (.invokevirtual 147, 3) := by decide +kernel
theorem d_C_alias_34 : decode b_C_alias 34 = .ok (.iconst 0, 1) := by decide +kernel
theorem d_C_alias_35 : decode b_C_alias 35 = .ok (.ireturn, 1) := by decide +kernel
theorem d_C_alias_36 : decode b_C_alias 36 = .ok (.aload_n 0, 1) := by decide +kernel
theorem d_C_alias_37 : decode b_C_alias 37 = .ok (.getfield 50, 3) := by decide +kernel
theorem d_C_alias_40 : decode b_C_alias 40 = .ok (.iload_n 1, 1) := by decide +kernel
theorem d_C_alias_41 : decode b_C_alias 41 = .ok (.iload_n 2, 1) := by decide +kernel
theorem d_C_alias_42 : decode b_C_alias 42 = .ok (.invokevirtual 250, 3) := by decide +kernel
theorem d_C_alias_45 : decode b_C_alias 45 = .ok (.iconst 1, 1) := by decide +kernel
theorem d_C_alias_46 : decode b_C_alias 46 = .ok (.ireturn, 1) := by decide +kernel
theorem d_C_meaning_0 : decode b_C_meaning 0 = .ok (.aload_n 0, 1) := by decide +kernel
theorem d_C_meaning_1 : decode b_C_meaning 1 = .ok (.iload_n 1, 1) := by decide +kernel
theorem d_C_meaning_2 : decode b_C_meaning 2 = .ok (.invokevirtual 131, 3) := by decide +kernel
theorem d_C_meaning_5 : decode b_C_meaning 5 = .ok (.aload_n 0, 1) := by decide +kernel
theorem d_C_meaning_6 : decode b_C_meaning 6 = .ok (.getfield 50, 3) := by decide +kernel
theorem d_C_meaning_9 : decode b_C_meaning 9 = .ok (.iload_n 1, 1) := by decide +kernel
theorem d_C_meaning_10 : decode b_C_meaning 10 = .ok (.invokevirtual 253, 3) := by decide +kernel
theorem d_C_meaning_13 : decode b_C_meaning 13 = .ok (.ireturn, 1) := by decide +kernel
theorem d_C_join_0 : decode b_C_join 0 = .ok (.aload_n 0, 1) := by decide +kernel
theorem d_C_join_1 : decode b_C_join 1 = .ok (.iload_n 1, 1) := by decide +kernel
theorem d_C_join_2 : decode b_C_join 2 = .ok (.invokevirtual 131, 3) := by decide +kernel
theorem d_C_join_5 : decode b_C_join 5 = .ok (.aload_n 0, 1) := by decide +kernel
theorem d_C_join_6 : decode b_C_join 6 = .ok (.iload_n 2, 1) := by decide +kernel
theorem d_C_join_7 : decode b_C_join 7 = .ok (.invokevirtual 131, 3) := by decide +kernel
theorem d_C_join_10 : decode b_C_join 10 = .ok (.iload_n 3, 1) := by decide +kernel
theorem d_C_join_11 : decode b_C_join 11 = .ok (.ifCond .eq 19, 3) := by decide +kernel
theorem d_C_join_14 : decode b_C_join 14 = .ok (.iload_n 3, 1) := by decide +kernel
theorem d_C_join_15 : decode b_C_join 15 = .ok (.iconst 1, 1) := by decide +kernel
theorem d_C_join_16 : decode b_C_join 16 = .ok (.if_icmp .eq 14, 3) := by decide +kernel
theorem d_C_join_19 : decode b_C_join 19 = .ok (.new 89, 3) := by decide +kernel
theorem d_C_join_22 : decode b_C_join 22 = .ok (.dup, 1) := by decide +kernel
theorem d_C_join_23 : decode b_C_join 23 = .ok (.ldc_w 256, 3) := by decide +kernel
theorem d_C_join_26 : decode b_C_join 26 = .ok (.invokespecial 93, 3) := by decide +kernel
theorem d_C_join_29 : decode b_C_join 29 = .ok (.athrow, 1) := by decide +kernel
theorem d_C_join_30 : decode b_C_join 30 = .ok (.iload_n 3, 1) := by decide +kernel
theorem d_C_join_31 : decode b_C_join 31 = .ok (.ifCond .ne 26, 3) := by decide +kernel
theorem d_C_join_34 : decode b_C_join 34 = .ok (.aload_n 0, 1) := by decide +kernel
theorem d_C_join_35 : decode b_C_join 35 = .ok (.aload_n 0, 1) := by decide +kernel
theorem d_C_join_36 : decode b_C_join 36 = .ok (.getfield 27, 3) := by decide +kernel
theorem d_C_join_39 : decode b_C_join 39 = .ok (.iload_n 1, 1) := by decide +kernel
theorem d_C_join_40 : decode b_C_join 40 = .ok (.invokevirtual 134, 3) := by decide +kernel
theorem d_C_join_43 : decode b_C_join 43 = .ok (.aload_n 0, 1) := by decide +kernel
theorem d_C_join_44 : decode b_C_join 44 = .ok (.getfield 27, 3) := by decide +kernel
theorem d_C_join_47 : decode b_C_join 47 = .ok (.iload_n 2, 1) := by decide +kernel
theorem d_C_join_48 : decode b_C_join 48 = .ok (.invokevirtual 134, 3) := by decide +kernel
theorem d_C_join_51 : decode b_C_join 51 = .ok (.invokevirtual 258, 3) := by decide +kernel
theorem d_C_join_54 : decode b_C_join 54 = .ok (.goto 23, 3) := by decide +kernel
theorem d_C_join_57 : decode b_C_join 57 = .ok (.aload_n 0, 1) := by decide +kernel
theorem d_C_join_58 : decode b_C_join 58 = .ok (.aload_n 0, 1) := by decide +kernel
theorem d_C_join_59 : decode b_C_join 59 = .ok (.getfield 27, 3) := by decide +kernel
theorem d_C_join_62 : decode b_C_join 62 = .ok (.iload_n 1, 1) := by decide +kernel
theorem d_C_join_63 : decode b_C_join 63 = .ok (.invokevirtual 134, 3) := by decide +kernel
theorem d_C_join_66 : decode b_C_join 66 = .ok (.aload_n 0, 1) := by decide +kernel
theorem d_C_join_67 : decode b_C_join 67 = .ok (.getfield 27, 3) := by decide +kernel
theorem d_C_join_70 : decode b_C_join 70 = .ok (.iload_n 2, 1) := by decide +kernel
theorem d_C_join_71 : decode b_C_join 71 = .ok (.invokevirtual 134, 3) := by decide +kernel
theorem d_C_join_74 : decode b_C_join 74 = .ok (.invokevirtual 262, 3) := by decide +kernel
theorem d_C_join_77 : decode b_C_join 77 = .ok (.aload_n 0, 1) := by decide +kernel
theorem d_C_join_78 : decode b_C_join 78 = .ok (.aload_n 0, 1) := by decide +kernel
theorem d_C_join_79 : decode b_C_join 79 = .ok (.getfield 21, 3) := by decide +kernel
theorem d_C_join_82 : decode b_C_join 82 = .ok (.invokevirtual 119, 3) := by decide +kernel
theorem d_C_join_85 : decode b_C_join 85 = .ok (.ireturn, 1) := by decide +kernel
theorem d_C_rename_0 : decode b_C_rename 0 = .ok (.aload_n 0, 1) := by decide +kernel
theorem d_C_rename_1 : decode b_C_rename 1 = .ok (.iload_n 1, 1) := by decide +kernel
theorem d_C_rename_2 : decode b_C_rename 2 = .ok (.invokevirtual 131, 3) := by decide +kernel
theorem d_C_rename_5 : decode b_C_rename 5 = .ok (.aload_n 0, 1) := by decide +kernel
theorem d_C_rename_6 : decode b_C_rename 6 = .ok (.iload_n 2, 1) := by decide +kernel
theorem d_C_rename_7 : decode b_C_rename 7 = .ok (.invokevirtual 131, 3) := by decide +kernel
theorem d_C_rename_10 : decode b_C_rename 10 = .ok (.iload_n 1, 1) := by decide +kernel
theorem d_C_rename_11 : decode b_C_rename 11 = .ok (.iload_n 2, 1) := by decide +kernel
theorem d_C_rename_12 : decode b_C_rename 12 = .ok (.if_icmp .ne 14, 3) := by decide +kernel
theorem d_C_rename_15 : decode b_C_rename 15 = .ok (.new 89, 3) := by decide +kernel
theorem d_C_rename_18 : decode b_C_rename 18 = .ok (.dup, 1) := by decide +kernel
theorem d_C_rename_19 : decode b_C_rename 19 = .ok (.ldc_w 265, 3) := by decide +kernel
theorem d_C_rename_22 : decode b_C_rename 22 = .ok (.invokespecial 93, 3) := by decide +kernel
theorem d_C_rename_25 : decode b_C_rename 25 = .ok (.athrow, 1) := by decide +kernel
theorem d_C_rename_26 : decode b_C_rename 26 = .ok (.aload_n 0, 1) := by decide +kernel
theorem d_C_rename_27 : decode b_C_rename 27 = .ok (.iload_n 1, 1) := by decide +kernel
theorem d_C_rename_28 : decode b_C_rename 28 = .ok (.iload_n 2, 1) := by decide +kernel
theorem d_C_rename_29 : decode b_C_rename 29 = .ok (.invokevirtual 267, 3) := by decide +kernel
theorem d_C_rename_32 : decode b_C_rename 32 = .ok (.ifCond .eq 5, 3) := by decide +kernel
theorem d_C_rename_35 : decode b_C_rename 35 = .ok (.iconst (-1), 1) := by decide +kernel
theorem d_C_rename_36 : decode b_C_rename 36 = .ok (.ireturn, 1) := by decide +kernel
theorem d_C_rename_37 : decode b_C_rename 37 = .ok (.aload_n 0, 1) := by decide +kernel
theorem d_C_rename_38 : decode b_C_rename 38 = .ok (.getfield 57, 3) := by decide +kernel
theorem d_C_rename_41 : decode b_C_rename 41 = .ok (.invokevirtual 270, 3) := by decide +kernel
theorem d_C_rename_44 : decode b_C_rename 44 = .ok (.ifCond .eq 14, 3) := by decide +kernel
theorem d_C_rename_47 : decode b_C_rename 47 = .ok (.new 100, 3) := by decide +kernel
theorem d_C_rename_50 : decode b_C_rename 50 = .ok (.dup, 1) := by decide +kernel
theorem d_C_rename_51 : decode b_C_rename 51 = .ok (.ldc_w 271, 3) := by decide +kernel
theorem d_C_rename_54 : decode b_C_rename 54 = .ok (.invokespecial 104, 3) := by decide +kernel
theorem d_C_rename_57 : decode b_C_rename 57 = .ok (.athrow, 1) := by decide +kernel
theorem d_C_rename_58 : decode b_C_rename 58 = .ok (.aload_n 0, 1) := by decide +kernel
theorem d_C_rename_59 : decode b_C_rename 59 = .ok (.getfield 57, 3) := by decide +kernel
theorem d_C_rename_62 : decode b_C_rename 62 = .ok (.iload_n 1, 1) := by decide +kernel
theorem d_C_rename_63 : decode b_C_rename 63 = .ok (.iload_n 2, 1) := by decide +kernel
theorem d_C_rename_64 : decode b_C_rename 64 = .ok (.invokevirtual 273, 3) := by decide +kernel
theorem d_C_rename_67 : decode b_C_rename 67 = .ok (.aload_n 0, 1) := by decide +kernel
theorem d_C_rename_68 : decode b_C_rename 68 = .ok (.getfield 43, 3) := by decide +kernel
theorem d_C_rename_71 : decode b_C_rename 71 = .ok (.iload_n 1, 1) := by decide +kernel
theorem d_C_rename_72 : decode b_C_rename 72 = .ok (.iload_n 2, 1) := by decide +kernel
theorem d_C_rename_73 : decode b_C_rename 73 = .ok (.invokevirtual 274, 3) := by decide +kernel
theorem d_C_rename_76 : decode b_C_rename 76 = .ok (.aload_n 0, 1) := by decide +kernel
theorem d_C_rename_77 : decode b_C_rename 77 = .ok (.getfield 50, 3) := by decide +kernel
theorem d_C_rename_80 : decode b_C_rename 80 = .ok (.iload_n 1, 1) := by decide +kernel
theorem d_C_rename_81 : decode b_C_rename 81 = .ok (.iload_n 2, 1) := by decide +kernel
theorem d_C_rename_82 : decode b_C_rename 82 = .ok (.invokevirtual 277, 3) := by decide +kernel
theorem d_C_rename_85 : decode b_C_rename 85 = .ok (.iadd, 1) := by decide +kernel
theorem d_C_rename_86 : decode b_C_rename 86 = .ok (.aload_n 0, 1) := by decide +kernel
theorem d_C_rename_87 : decode b_C_rename 87 = .ok (.iload_n 1, 1) := by decide +kernel
theorem d_C_rename_88 : decode b_C_rename 88 = .ok (.iload_n 2, 1) := by decide +kernel
theorem d_C_rename_89 : decode b_C_rename 89 = .ok (.invokevirtual 278, 3) := by decide +kernel
theorem d_C_rename_92 : decode b_C_rename 92 = .ok (.iadd, 1) := by decide +kernel
theorem d_C_rename_93 : decode b_C_rename 93 = .ok (.ireturn, 1) := by decide +kernel
theorem d_C_now_0 : decode b_C_now 0 = .ok (.aload_n 0, 1) := by decide +kernel
theorem d_C_now_1 : decode b_C_now 1 = .ok (.iload_n 1, 1) := by decide +kernel
theorem d_C_now_2 : decode b_C_now 2 = .ok (.invokevirtual 131, 3) := by decide +kernel
theorem d_C_now_5 : decode b_C_now 5 = .ok (.aload_n 0, 1) := by decide +kernel
theorem d_C_now_6 : decode b_C_now 6 = .ok (.getfield 57, 3) := by decide +kernel
theorem d_C_now_9 : decode b_C_now 9 = .ok (.iload_n 1, 1) := by decide +kernel
theorem d_C_now_10 : decode b_C_now 10 = .ok (.invokevirtual 281, 3) := by decide +kernel
theorem d_C_now_13 : decode b_C_now 13 = .ok (.ireturn, 1) := by decide +kernel
theorem d_C_was_0 : decode b_C_was 0 = .ok (.aload_n 0, 1) := by decide +kernel
theorem d_C_was_1 : decode b_C_was 1 = .ok (.iload_n 1, 1) := by decide +kernel
theorem d_C_was_2 : decode b_C_was 2 = .ok (.invokevirtual 131, 3) := by decide +kernel
theorem d_C_was_5 : decode b_C_was 5 = .ok (.aload_n 0, 1) := by decide +kernel
theorem d_C_was_6 : decode b_C_was 6 = .ok (.getfield 57, 3) := by decide +kernel
theorem d_C_was_9 : decode b_C_was 9 = .ok (.iload_n 1, 1) := by decide +kernel
theorem d_C_was_10 : decode b_C_was 10 = .ok (.invokevirtual 284, 3) := by decide +kernel
theorem d_C_was_13 : decode b_C_was 13 = .ok (.ireturn, 1) := by decide +kernel
theorem d_C_clash_0 : decode b_C_clash 0 = .ok (.iload_n 1, 1) := by decide +kernel
theorem d_C_clash_1 : decode b_C_clash 1 = .ok (.tableswitch 42 0 2 #[27, 32, 37], 27) := by decide +kernel
theorem d_C_clash_28 : decode b_C_clash 28 = .ok (.aload_n 0, 1) := by decide +kernel
theorem d_C_clash_29 : decode b_C_clash 29 = .ok (.getfield 79, 3) := by decide +kernel
theorem d_C_clash_32 : decode b_C_clash 32 = .ok (.ireturn, 1) := by decide +kernel
theorem d_C_clash_33 : decode b_C_clash 33 = .ok (.aload_n 0, 1) := by decide +kernel
theorem d_C_clash_34 : decode b_C_clash 34 = .ok (.getfield 83, 3) := by decide +kernel
theorem d_C_clash_37 : decode b_C_clash 37 = .ok (.ireturn, 1) := by decide +kernel
theorem d_C_clash_38 : decode b_C_clash 38 = .ok (.aload_n 0, 1) := by decide +kernel
theorem d_C_clash_39 : decode b_C_clash 39 = .ok (.getfield 86, 3) := by decide +kernel
theorem d_C_clash_42 : decode b_C_clash 42 = .ok (.ireturn, 1) := by decide +kernel
theorem d_C_clash_43 : decode b_C_clash 43 = .ok (.new 89, 3) := by decide +kernel
theorem d_C_clash_46 : decode b_C_clash 46 = .ok (.dup, 1) := by decide +kernel
theorem d_C_clash_47 : decode b_C_clash 47 = .ok (.ldc_w 287, 3) := by decide +kernel
theorem d_C_clash_50 : decode b_C_clash 50 = .ok (.invokespecial 93, 3) := by decide +kernel
theorem d_C_clash_53 : decode b_C_clash 53 = .ok (.athrow, 1) := by decide +kernel
theorem d_C_count_0 : decode b_C_count 0 = .ok (.iload_n 1, 1) := by decide +kernel
theorem d_C_count_1 : decode b_C_count 1 = .ok (.tableswitch 96 0 6 #[43, 51, 59, 67, 75, 83, 91], 43) := by decide +kernel
theorem d_C_count_44 : decode b_C_count 44 = .ok (.aload_n 0, 1) := by decide +kernel
theorem d_C_count_45 : decode b_C_count 45 = .ok (.getfield 27, 3) := by decide +kernel
theorem d_C_count_48 : decode b_C_count 48 = .ok (.invokevirtual 233, 3) := by decide +kernel
theorem d_C_count_51 : decode b_C_count 51 = .ok (.ireturn, 1) := by decide +kernel
theorem d_C_count_52 : decode b_C_count 52 = .ok (.aload_n 0, 1) := by decide +kernel
theorem d_C_count_53 : decode b_C_count 53 = .ok (.getfield 36, 3) := by decide +kernel
theorem d_C_count_56 : decode b_C_count 56 = .ok (.invokevirtual 289, 3) := by decide +kernel
theorem d_C_count_59 : decode b_C_count 59 = .ok (.ireturn, 1) := by decide +kernel
theorem d_C_count_60 : decode b_C_count 60 = .ok (.aload_n 0, 1) := by decide +kernel
theorem d_C_count_61 : decode b_C_count 61 = .ok (.getfield 36, 3) := by decide +kernel
theorem d_C_count_64 : decode b_C_count 64 = .ok (.invokevirtual 292, 3) := by decide +kernel
theorem d_C_count_67 : decode b_C_count 67 = .ok (.ireturn, 1) := by decide +kernel
theorem d_C_count_68 : decode b_C_count 68 = .ok (.aload_n 0, 1) := by decide +kernel
theorem d_C_count_69 : decode b_C_count 69 = .ok (.getfield 43, 3) := by decide +kernel
theorem d_C_count_72 : decode b_C_count 72 = .ok (.invokevirtual 220, 3) := by decide +kernel
theorem d_C_count_75 : decode b_C_count 75 = .ok (.ireturn, 1) := by decide +kernel
theorem d_C_count_76 : decode b_C_count 76 = .ok (.aload_n 0, 1) := by decide +kernel
theorem d_C_count_77 : decode b_C_count 77 = .ok (.getfield 57, 3) := by decide +kernel
theorem d_C_count_80 : decode b_C_count 80 = .ok (.invokevirtual 293, 3) := by decide +kernel
theorem d_C_count_83 : decode b_C_count 83 = .ok (.ireturn, 1) := by decide +kernel
theorem d_C_count_84 : decode b_C_count 84 = .ok (.aload_n 0, 1) := by decide +kernel
theorem d_C_count_85 : decode b_C_count 85 = .ok (.getfield 14, 3) := by decide +kernel
theorem d_C_count_88 : decode b_C_count 88 = .ok (.invokevirtual 109, 3) := by decide +kernel
theorem d_C_count_91 : decode b_C_count 91 = .ok (.ireturn, 1) := by decide +kernel
theorem d_C_count_92 : decode b_C_count 92 = .ok (.aload_n 0, 1) := by decide +kernel
theorem d_C_count_93 : decode b_C_count 93 = .ok (.invokevirtual 294, 3) := by decide +kernel
theorem d_C_count_96 : decode b_C_count 96 = .ok (.ireturn, 1) := by decide +kernel
theorem d_C_count_97 : decode b_C_count 97 = .ok (.new 89, 3) := by decide +kernel
theorem d_C_count_100 : decode b_C_count 100 = .ok (.dup, 1) := by decide +kernel
theorem d_C_count_101 : decode b_C_count 101 = .ok (.ldc_w 297, 3) := by decide +kernel
theorem d_C_count_104 : decode b_C_count 104 = .ok (.invokespecial 93, 3) := by decide +kernel
theorem d_C_count_107 : decode b_C_count 107 = .ok (.athrow, 1) := by decide +kernel
theorem d_C_requireName_0 : decode b_C_requireName 0 = .ok (.aload_n 0, 1) := by decide +kernel
theorem d_C_requireName_1 : decode b_C_requireName 1 = .ok (.getfield 27, 3) := by decide +kernel
theorem d_C_requireName_4 : decode b_C_requireName 4 = .ok (.iload_n 1, 1) := by decide +kernel
theorem d_C_requireName_5 : decode b_C_requireName 5 = .ok (.invokevirtual 299, 3) := by decide +kernel
theorem d_C_requireName_8 : decode b_C_requireName 8 = .ok (.ifCond .ne 14, 3) := by decide +kernel
theorem d_C_requireName_11 : decode b_C_requireName 11 = .ok (.new 207, 3) := by decide +kernel
theorem d_C_requireName_14 : decode b_C_requireName 14 = .ok (.dup, 1) := by decide +kernel
theorem d_C_requireName_15 : decode b_C_requireName 15 = .ok (.ldc_w 300, 3) := by decide +kernel
theorem d_C_requireName_18 : decode b_C_requireName 18 = .ok (.invokespecial 211, 3) := by decide +kernel
theorem d_C_requireName_21 : decode b_C_requireName 21 = .ok (.athrow, 1) := by decide +kernel
theorem d_C_requireName_22 : decode b_C_requireName 22 = .ok (.return_, 1) := by decide +kernel
theorem d_C_requirePlace_0 : decode b_C_requirePlace 0 = .ok (.iload_n 1, 1) := by decide +kernel
theorem d_C_requirePlace_1 : decode b_C_requirePlace 1 = .ok (.ifCond .ge 14, 3) := by decide +kernel
theorem d_C_requirePlace_4 : decode b_C_requirePlace 4 = .ok (.new 207, 3) := by decide +kernel
theorem d_C_requirePlace_7 : decode b_C_requirePlace 7 = .ok (.dup, 1) := by decide +kernel
theorem d_C_requirePlace_8 : decode b_C_requirePlace 8 = .ok (.ldc_w 302, 3) := by decide +kernel
theorem d_C_requirePlace_11 : decode b_C_requirePlace 11 = .ok (.invokespecial 211, 3) := by decide +kernel
theorem d_C_requirePlace_14 : decode b_C_requirePlace 14 = .ok (.athrow, 1) := by decide +kernel
theorem d_C_requirePlace_15 : decode b_C_requirePlace 15 = .ok (.return_, 1) := by decide +kernel
theorem d_C_requireTape_0 : decode b_C_requireTape 0 = .ok (.aload_n 0, 1) := by decide +kernel
theorem d_C_requireTape_1 : decode b_C_requireTape 1 = .ok (.getfield 14, 3) := by decide +kernel
theorem d_C_requireTape_4 : decode b_C_requireTape 4 = .ok (.invokevirtual 126, 3) := by decide +kernel
theorem d_C_requireTape_7 : decode b_C_requireTape 7 = .ok (.ifCond .eq 14, 3) := by decide +kernel
theorem d_C_requireTape_10 : decode b_C_requireTape 10 = .ok (.new 189, 3) := by decide +kernel
theorem d_C_requireTape_13 : decode b_C_requireTape 13 = .ok (.dup, 1) := by decide +kernel
theorem d_C_requireTape_14 : decode b_C_requireTape 14 = .ok (.ldc_w 304, 3) := by decide +kernel
theorem d_C_requireTape_17 : decode b_C_requireTape 17 = .ok (.invokespecial 193, 3) := by decide +kernel
theorem d_C_requireTape_20 : decode b_C_requireTape 20 = .ok (.athrow, 1) := by decide +kernel
theorem d_C_requireTape_21 : decode b_C_requireTape 21 = .ok (.return_, 1) := by decide +kernel
theorem d_C_keepClash_0 : decode b_C_keepClash 0 = .ok (.aload_n 0, 1) := by decide +kernel
theorem d_C_keepClash_1 : decode b_C_keepClash 1 = .ok (.iload_n 1, 1) := by decide +kernel
theorem d_C_keepClash_2 : decode b_C_keepClash 2 = .ok (.putfield 79, 3) := by decide +kernel
theorem d_C_keepClash_5 : decode b_C_keepClash 5 = .ok (.aload_n 0, 1) := by decide +kernel
theorem d_C_keepClash_6 : decode b_C_keepClash 6 = .ok (.iload_n 2, 1) := by decide +kernel
theorem d_C_keepClash_7 : decode b_C_keepClash 7 = .ok (.putfield 83, 3) := by decide +kernel
theorem d_C_keepClash_10 : decode b_C_keepClash 10 = .ok (.aload_n 0, 1) := by decide +kernel
theorem d_C_keepClash_11 : decode b_C_keepClash 11 = .ok (.iload_n 3, 1) := by decide +kernel
theorem d_C_keepClash_12 : decode b_C_keepClash 12 = .ok (.putfield 86, 3) := by decide +kernel
theorem d_C_keepClash_15 : decode b_C_keepClash 15 = .ok (.return_, 1) := by decide +kernel
theorem d_C_numberOf_0 : decode b_C_numberOf 0 = .ok (.aload_n 0, 1) := by decide +kernel
theorem d_C_numberOf_1 : decode b_C_numberOf 1 = .ok (.getfield 27, 3) := by decide +kernel
theorem d_C_numberOf_4 : decode b_C_numberOf 4 = .ok (.aload_n 1, 1) := by decide +kernel
theorem d_C_numberOf_5 : decode b_C_numberOf 5 = .ok (.invokevirtual 306, 3) := by decide +kernel
theorem d_C_numberOf_8 : decode b_C_numberOf 8 = .ok (.istore_n 2, 1) := by decide +kernel
theorem d_C_numberOf_9 : decode b_C_numberOf 9 = .ok (.iload_n 2, 1) := by decide +kernel
theorem d_C_numberOf_10 : decode b_C_numberOf 10 = .ok (.iconst (-1), 1) := by decide +kernel
theorem d_C_numberOf_11 : decode b_C_numberOf 11 = .ok (.if_icmp .eq 5, 3) := by decide +kernel
theorem d_C_numberOf_14 : decode b_C_numberOf 14 = .ok (.iload_n 2, 1) := by decide +kernel
theorem d_C_numberOf_15 : decode b_C_numberOf 15 = .ok (.ireturn, 1) := by decide +kernel
theorem d_C_numberOf_16 : decode b_C_numberOf 16 = .ok (.aload_n 1, 1) := by decide +kernel
theorem d_C_numberOf_17 : decode b_C_numberOf 17 = .ok (.invokevirtual 109, 3) := by decide +kernel
theorem d_C_numberOf_20 : decode b_C_numberOf 20 = .ok (.bipush 24, 2) := by decide +kernel
theorem d_C_numberOf_22 : decode b_C_numberOf 22 = .ok (.if_icmp .gt 13, 3) := by decide +kernel
theorem d_C_numberOf_25 : decode b_C_numberOf 25 = .ok (.aload_n 0, 1) := by decide +kernel
theorem d_C_numberOf_26 : decode b_C_numberOf 26 = .ok (.getfield 27, 3) := by decide +kernel
theorem d_C_numberOf_29 : decode b_C_numberOf 29 = .ok (.invokevirtual 309, 3) := by decide +kernel
theorem d_C_numberOf_32 : decode b_C_numberOf 32 = .ok (.ifCond .eq 14, 3) := by decide +kernel
theorem d_C_numberOf_35 : decode b_C_numberOf 35 = .ok (.new 100, 3) := by decide +kernel
theorem d_C_numberOf_38 : decode b_C_numberOf 38 = .ok (.dup, 1) := by decide +kernel
theorem d_C_numberOf_39 : decode b_C_numberOf 39 = .ok (.ldc_w 310, 3) := by decide +kernel
theorem d_C_numberOf_42 : decode b_C_numberOf 42 = .ok (.invokespecial 104, 3) := by decide +kernel
theorem d_C_numberOf_45 : decode b_C_numberOf 45 = .ok (.athrow, 1) := by decide +kernel
theorem d_C_numberOf_46 : decode b_C_numberOf 46 = .ok (.aload_n 0, 1) := by decide +kernel
theorem d_C_numberOf_47 : decode b_C_numberOf 47 = .ok (.getfield 27, 3) := by decide +kernel
theorem d_C_numberOf_50 : decode b_C_numberOf 50 = .ok (.aload_n 1, 1) := by decide +kernel
theorem d_C_numberOf_51 : decode b_C_numberOf 51 = .ok (.invokevirtual 312, 3) := by decide +kernel
theorem d_C_numberOf_54 : decode b_C_numberOf 54 = .ok (.ireturn, 1) := by decide +kernel
theorem d_C_buildFromTape_0 : decode b_C_buildFromTape 0 = .ok (.aload_n 0, 1) := by decide +kernel
theorem d_C_buildFromTape_1 : decode b_C_buildFromTape 1 = .ok (.getfield 14, 3) := by decide +kernel
theorem d_C_buildFromTape_4 : decode b_C_buildFromTape 4 = .ok (.invokevirtual 109, 3) := by decide +kernel
theorem d_C_buildFromTape_7 : decode b_C_buildFromTape 7 = .ok (.iconst 1, 1) := by decide +kernel
theorem d_C_buildFromTape_8 : decode b_C_buildFromTape 8 = .ok (.isub, 1) := by decide +kernel
theorem d_C_buildFromTape_9 : decode b_C_buildFromTape 9 = .ok (.istore_n 1, 1) := by decide +kernel
theorem d_C_buildFromTape_10 : decode b_C_buildFromTape 10 = .ok (.aload_n 0, 1) := by decide +kernel
theorem d_C_buildFromTape_11 : decode b_C_buildFromTape 11 = .ok (.getfield 14, 3) := by decide +kernel
theorem d_C_buildFromTape_14 : decode b_C_buildFromTape 14 = .ok (.invokevirtual 109, 3) := by decide +kernel
theorem d_C_buildFromTape_17 : decode b_C_buildFromTape 17 = .ok (.iconst 2, 1) := by decide +kernel
theorem d_C_buildFromTape_18 : decode b_C_buildFromTape 18 = .ok (.if_icmp .le 50, 3) := by decide +kernel
theorem d_C_buildFromTape_21 : decode b_C_buildFromTape 21 = .ok (.aload_n 0, 1) := by decide +kernel
theorem d_C_buildFromTape_22 : decode b_C_buildFromTape 22 = .ok (.getfield 14, 3) := by decide +kernel
theorem d_C_buildFromTape_25 : decode b_C_buildFromTape 25 = .ok (.iconst 0, 1) := by decide +kernel
theorem d_C_buildFromTape_26 : decode b_C_buildFromTape 26 = .ok (.invokevirtual 179, 3) := by decide +kernel
theorem d_C_buildFromTape_29 : decode b_C_buildFromTape 29 = .ok (.bipush 60, 2) := by decide +kernel
theorem d_C_buildFromTape_31 : decode b_C_buildFromTape 31 = .ok (.if_icmp .ne 37, 3) := by decide +kernel
theorem d_C_buildFromTape_34 : decode b_C_buildFromTape 34 = .ok (.aload_n 0, 1) := by decide +kernel
theorem d_C_buildFromTape_35 : decode b_C_buildFromTape 35 = .ok (.getfield 14, 3) := by decide +kernel
theorem d_C_buildFromTape_38 : decode b_C_buildFromTape 38 = .ok (.iload_n 1, 1) := by decide +kernel
theorem d_C_buildFromTape_39 : decode b_C_buildFromTape 39 = .ok (.invokevirtual 179, 3) := by decide +kernel
theorem d_C_buildFromTape_42 : decode b_C_buildFromTape 42 = .ok (.bipush 62, 2) := by decide +kernel
theorem d_C_buildFromTape_44 : decode b_C_buildFromTape 44 = .ok (.if_icmp .ne 24, 3) := by decide +kernel
theorem d_C_buildFromTape_47 : decode b_C_buildFromTape 47 = .ok (.aload_n 0, 1) := by decide +kernel
theorem d_C_buildFromTape_48 : decode b_C_buildFromTape 48 = .ok (.getfield 21, 3) := by decide +kernel
theorem d_C_buildFromTape_51 : decode b_C_buildFromTape 51 = .ok (.invokevirtual 113, 3) := by decide +kernel
theorem d_C_buildFromTape_54 : decode b_C_buildFromTape 54 = .ok (.aload_n 0, 1) := by decide +kernel
theorem d_C_buildFromTape_55 : decode b_C_buildFromTape 55 = .ok (.getfield 21, 3) := by decide +kernel
theorem d_C_buildFromTape_58 : decode b_C_buildFromTape 58 = .ok (.aload_n 0, 1) := by decide +kernel
theorem d_C_buildFromTape_59 : decode b_C_buildFromTape 59 = .ok (.getfield 14, 3) := by decide +kernel
theorem d_C_buildFromTape_62 : decode b_C_buildFromTape 62 = .ok (.iconst 1, 1) := by decide +kernel
theorem d_C_buildFromTape_63 : decode b_C_buildFromTape 63 = .ok (.iload_n 1, 1) := by decide +kernel
theorem d_C_buildFromTape_64 : decode b_C_buildFromTape 64 = .ok (.invokevirtual 171, 3) := by decide +kernel
theorem d_C_buildFromTape_67 : decode b_C_buildFromTape 67 = .ok (.return_, 1) := by decide +kernel
theorem d_C_buildFromTape_68 : decode b_C_buildFromTape 68 = .ok (.aload_n 0, 1) := by decide +kernel
theorem d_C_buildFromTape_69 : decode b_C_buildFromTape 69 = .ok (.getfield 14, 3) := by decide +kernel
theorem d_C_buildFromTape_72 : decode b_C_buildFromTape 72 = .ok (.bipush 58, 2) := by decide +kernel
theorem d_C_buildFromTape_74 : decode b_C_buildFromTape 74 = .ok (.invokevirtual 314, 3) := by decide +kernel
theorem d_C_buildFromTape_77 : decode b_C_buildFromTape 77 = .ok (.istore_n 2, 1) := by decide +kernel
theorem d_C_buildFromTape_78 : decode b_C_buildFromTape 78 = .ok (.iload_n 2, 1) := by decide +kernel
theorem d_C_buildFromTape_79 : decode b_C_buildFromTape 79 = .ok (.iconst (-1), 1) := by decide +kernel
theorem d_C_buildFromTape_80 : decode b_C_buildFromTape 80 = .ok (.if_icmp .ne 7, 3) := by decide +kernel
theorem d_C_buildFromTape_83 : decode b_C_buildFromTape 83 = .ok (.iconst (-1), 1) := by decide +kernel
theorem d_C_buildFromTape_84 : decode b_C_buildFromTape 84 = .ok (.goto 8, 3) := by decide +kernel
theorem d_C_buildFromTape_87 : decode b_C_buildFromTape 87 = .ok (.aload_n 0, 1) := by decide +kernel
theorem d_C_buildFromTape_88 : decode b_C_buildFromTape 88 = .ok (.iload_n 2, 1) := by decide +kernel
theorem d_C_buildFromTape_89 : decode b_C_buildFromTape 89 = .ok (.invokevirtual 318, 3) := by decide +kernel
theorem d_C_buildFromTape_92 : decode b_C_buildFromTape 92 = .ok (.istore_n 3, 1) := by decide +kernel
theorem d_C_buildFromTape_93 : decode b_C_buildFromTape 93 = .ok (.aload_n 0, 1) := by decide +kernel
theorem d_C_buildFromTape_94 : decode b_C_buildFromTape 94 = .ok (.getfield 21, 3) := by decide +kernel
theorem d_C_buildFromTape_97 : decode b_C_buildFromTape 97 = .ok (.invokevirtual 113, 3) := by decide +kernel
theorem d_C_buildFromTape_100 : decode b_C_buildFromTape 100 = .ok (.iload_n 3, 1) := by decide +kernel
theorem d_C_buildFromTape_101 : decode b_C_buildFromTape 101 = .ok (.iconst (-1), 1) := by decide +kernel
theorem d_C_buildFromTape_102 : decode b_C_buildFromTape 102 = .ok (.if_icmp .eq 44, 3) := by decide +kernel
theorem d_C_buildFromTape_105 : decode b_C_buildFromTape 105 = .ok (.iload_n 2, 1) := by decide +kernel
theorem d_C_buildFromTape_106 : decode b_C_buildFromTape 106 = .ok (.iload_n 1, 1) := by decide +kernel
theorem d_C_buildFromTape_107 : decode b_C_buildFromTape 107 = .ok (.if_icmp .ge 39, 3) := by decide +kernel
theorem d_C_buildFromTape_110 : decode b_C_buildFromTape 110 = .ok (.aload_n 0, 1) := by decide +kernel
theorem d_C_buildFromTape_111 : decode b_C_buildFromTape 111 = .ok (.getfield 21, 3) := by decide +kernel
theorem d_C_buildFromTape_114 : decode b_C_buildFromTape 114 = .ok (.aload_n 0, 1) := by decide +kernel
theorem d_C_buildFromTape_115 : decode b_C_buildFromTape 115 = .ok (.getfield 27, 3) := by decide +kernel
theorem d_C_buildFromTape_118 : decode b_C_buildFromTape 118 = .ok (.iload_n 3, 1) := by decide +kernel
theorem d_C_buildFromTape_119 : decode b_C_buildFromTape 119 = .ok (.invokevirtual 134, 3) := by decide +kernel
theorem d_C_buildFromTape_122 : decode b_C_buildFromTape 122 = .ok (.invokevirtual 186, 3) := by decide +kernel
theorem d_C_buildFromTape_125 : decode b_C_buildFromTape 125 = .ok (.aload_n 0, 1) := by decide +kernel
theorem d_C_buildFromTape_126 : decode b_C_buildFromTape 126 = .ok (.getfield 21, 3) := by decide +kernel
theorem d_C_buildFromTape_129 : decode b_C_buildFromTape 129 = .ok (.aload_n 0, 1) := by decide +kernel
theorem d_C_buildFromTape_130 : decode b_C_buildFromTape 130 = .ok (.getfield 14, 3) := by decide +kernel
theorem d_C_buildFromTape_133 : decode b_C_buildFromTape 133 = .ok (.iload_n 2, 1) := by decide +kernel
theorem d_C_buildFromTape_134 : decode b_C_buildFromTape 134 = .ok (.iconst 1, 1) := by decide +kernel
theorem d_C_buildFromTape_135 : decode b_C_buildFromTape 135 = .ok (.iadd, 1) := by decide +kernel
theorem d_C_buildFromTape_136 : decode b_C_buildFromTape 136 = .ok (.aload_n 0, 1) := by decide +kernel
theorem d_C_buildFromTape_137 : decode b_C_buildFromTape 137 = .ok (.getfield 14, 3) := by decide +kernel
theorem d_C_buildFromTape_140 : decode b_C_buildFromTape 140 = .ok (.invokevirtual 109, 3) := by decide +kernel
theorem d_C_buildFromTape_143 : decode b_C_buildFromTape 143 = .ok (.invokevirtual 171, 3) := by decide +kernel
theorem d_C_buildFromTape_146 : decode b_C_buildFromTape 146 = .ok (.return_, 1) := by decide +kernel
theorem d_C_spaceOnTapeBefore_0 : decode b_C_spaceOnTapeBefore 0 = .ok (.aload_n 0, 1) := by decide +kernel
theorem d_C_spaceOnTapeBefore_1 : decode b_C_spaceOnTapeBefore 1 = .ok (.getfield 21, 3) := by decide +kernel
theorem d_C_spaceOnTapeBefore_4 : decode b_C_spaceOnTapeBefore 4 = .ok (.invokevirtual 113, 3) := by decide +kernel
theorem d_C_spaceOnTapeBefore_7 : decode b_C_spaceOnTapeBefore 7 = .ok (.aload_n 0, 1) := by decide +kernel
theorem d_C_spaceOnTapeBefore_8 : decode b_C_spaceOnTapeBefore 8 = .ok (.getfield 21, 3) := by decide +kernel
theorem d_C_spaceOnTapeBefore_11 : decode b_C_spaceOnTapeBefore 11 = .ok (.aload_n 0, 1) := by decide +kernel
theorem d_C_spaceOnTapeBefore_12 : decode b_C_spaceOnTapeBefore 12 = .ok (.getfield 14, 3) := by decide +kernel
theorem d_C_spaceOnTapeBefore_15 : decode b_C_spaceOnTapeBefore 15 = .ok (.iconst 0, 1) := by decide +kernel
theorem d_C_spaceOnTapeBefore_16 : decode b_C_spaceOnTapeBefore 16 = .ok (.iload_n 1, 1) := by decide +kernel
theorem d_C_spaceOnTapeBefore_17 : decode b_C_spaceOnTapeBefore 17 = .ok (.invokevirtual 171, 3) := by decide +kernel
theorem d_C_spaceOnTapeBefore_20 : decode b_C_spaceOnTapeBefore 20 = .ok (.aload_n 0, 1) := by decide +kernel
theorem d_C_spaceOnTapeBefore_21 : decode b_C_spaceOnTapeBefore 21 = .ok (.getfield 27, 3) := by decide +kernel
theorem d_C_spaceOnTapeBefore_24 : decode b_C_spaceOnTapeBefore 24 = .ok (.aload_n 0, 1) := by decide +kernel
theorem d_C_spaceOnTapeBefore_25 : decode b_C_spaceOnTapeBefore 25 = .ok (.getfield 21, 3) := by decide +kernel
theorem d_C_spaceOnTapeBefore_28 : decode b_C_spaceOnTapeBefore 28 = .ok (.invokevirtual 306, 3) := by decide +kernel
theorem d_C_spaceOnTapeBefore_31 : decode b_C_spaceOnTapeBefore 31 = .ok (.istore_n 2, 1) := by decide +kernel
theorem d_C_spaceOnTapeBefore_32 : decode b_C_spaceOnTapeBefore 32 = .ok (.iload_n 2, 1) := by decide +kernel
theorem d_C_spaceOnTapeBefore_33 : decode b_C_spaceOnTapeBefore 33 = .ok (.iconst (-1), 1) := by decide +kernel
theorem d_C_spaceOnTapeBefore_34 : decode b_C_spaceOnTapeBefore 34 = .ok (.if_icmp .ne 7, 3) := by decide +kernel
theorem d_C_spaceOnTapeBefore_37 : decode b_C_spaceOnTapeBefore 37 = .ok (.iconst (-1), 1) := by decide +kernel
theorem d_C_spaceOnTapeBefore_38 : decode b_C_spaceOnTapeBefore 38 = .ok (.goto 11, 3) := by decide +kernel
theorem d_C_spaceOnTapeBefore_41 : decode b_C_spaceOnTapeBefore 41 = .ok (.aload_n 0, 1) := by decide +kernel
theorem d_C_spaceOnTapeBefore_42 : decode b_C_spaceOnTapeBefore 42 = .ok (.getfield 36, 3) := by decide +kernel
theorem d_C_spaceOnTapeBefore_45 : decode b_C_spaceOnTapeBefore 45 = .ok (.iload_n 2, 1) := by decide +kernel
theorem d_C_spaceOnTapeBefore_46 : decode b_C_spaceOnTapeBefore 46 = .ok (.invokevirtual 143, 3) := by decide +kernel
theorem d_C_spaceOnTapeBefore_49 : decode b_C_spaceOnTapeBefore 49 = .ok (.ireturn, 1) := by decide +kernel
theorem d_C_buildLastLetters_0 : decode b_C_buildLastLetters 0 = .ok (.aload_n 1, 1) := by decide +kernel
theorem d_C_buildLastLetters_1 : decode b_C_buildLastLetters 1 = .ok (.invokevirtual 109, 3) := by decide +kernel
theorem d_C_buildLastLetters_4 : decode b_C_buildLastLetters 4 = .ok (.istore_n 2, 1) := by decide +kernel
theorem d_C_buildLastLetters_5 : decode b_C_buildLastLetters 5 = .ok (.iload_n 2, 1) := by decide +kernel
theorem d_C_buildLastLetters_6 : decode b_C_buildLastLetters 6 = .ok (.ifCond .le 22, 3) := by decide +kernel
theorem d_C_buildLastLetters_9 : decode b_C_buildLastLetters 9 = .ok (.aload_n 1, 1) := by decide +kernel
theorem d_C_buildLastLetters_10 : decode b_C_buildLastLetters 10 = .ok (.iload_n 2, 1) := by decide +kernel
theorem d_C_buildLastLetters_11 : decode b_C_buildLastLetters 11 = .ok (.iconst 1, 1) := by decide +kernel
theorem d_C_buildLastLetters_12 : decode b_C_buildLastLetters 12 = .ok (.isub, 1) := by decide +kernel
theorem d_C_buildLastLetters_13 : decode b_C_buildLastLetters 13 = .ok (.invokevirtual 179, 3) := by decide +kernel
theorem d_C_buildLastLetters_16 : decode b_C_buildLastLetters 16 = .ok (.invokestatic 321, 3) := by decide +kernel
theorem d_C_buildLastLetters_19 : decode b_C_buildLastLetters 19 = .ok (.ifCond .ne 9, 3) := by decide +kernel
theorem d_C_buildLastLetters_22 : decode b_C_buildLastLetters 22 = .ok (.iinc 2 (-1), 3) := by decide +kernel
theorem d_C_buildLastLetters_25 : decode b_C_buildLastLetters 25 = .ok (.goto (-20), 3) := by decide +kernel
theorem d_C_buildLastLetters_28 : decode b_C_buildLastLetters 28 = .ok (.iload_n 2, 1) := by decide +kernel
theorem d_C_buildLastLetters_29 : decode b_C_buildLastLetters 29 = .ok (.istore_n 3, 1) := by decide +kernel
theorem d_C_buildLastLetters_30 : decode b_C_buildLastLetters 30 = .ok (.iload_n 3, 1) := by decide +kernel
theorem d_C_buildLastLetters_31 : decode b_C_buildLastLetters 31 = .ok (.ifCond .le 22, 3) := by decide +kernel
theorem d_C_buildLastLetters_34 : decode b_C_buildLastLetters 34 = .ok (.aload_n 1, 1) := by decide +kernel
theorem d_C_buildLastLetters_35 : decode b_C_buildLastLetters 35 = .ok (.iload_n 3, 1) := by decide +kernel
theorem d_C_buildLastLetters_36 : decode b_C_buildLastLetters 36 = .ok (.iconst 1, 1) := by decide +kernel
theorem d_C_buildLastLetters_37 : decode b_C_buildLastLetters 37 = .ok (.isub, 1) := by decide +kernel
theorem d_C_buildLastLetters_38 : decode b_C_buildLastLetters 38 = .ok (.invokevirtual 179, 3) := by decide +kernel
theorem d_C_buildLastLetters_41 : decode b_C_buildLastLetters 41 = .ok (.invokestatic 321, 3) := by decide +kernel
theorem d_C_buildLastLetters_44 : decode b_C_buildLastLetters 44 = .ok (.ifCond .eq 9, 3) := by decide +kernel
theorem d_C_buildLastLetters_47 : decode b_C_buildLastLetters 47 = .ok (.iinc 3 (-1), 3) := by decide +kernel
theorem d_C_buildLastLetters_50 : decode b_C_buildLastLetters 50 = .ok (.goto (-20), 3) := by decide +kernel
theorem d_C_buildLastLetters_53 : decode b_C_buildLastLetters 53 = .ok (.aload_n 0, 1) := by decide +kernel
theorem d_C_buildLastLetters_54 : decode b_C_buildLastLetters 54 = .ok (.getfield 21, 3) := by decide +kernel
theorem d_C_buildLastLetters_57 : decode b_C_buildLastLetters 57 = .ok (.invokevirtual 113, 3) := by decide +kernel
theorem d_C_buildLastLetters_60 : decode b_C_buildLastLetters 60 = .ok (.iload_n 3, 1) := by decide +kernel
theorem d_C_buildLastLetters_61 : decode b_C_buildLastLetters 61 = .ok (.istore 4, 2) := by decide +kernel
theorem d_C_buildLastLetters_63 : decode b_C_buildLastLetters 63 = .ok (.iload 4, 2) := by decide +kernel
theorem d_C_buildLastLetters_65 : decode b_C_buildLastLetters 65 = .ok (.iload_n 2, 1) := by decide +kernel
theorem d_C_buildLastLetters_66 : decode b_C_buildLastLetters 66 = .ok (.if_icmp .ge 25, 3) := by decide +kernel
theorem d_C_buildLastLetters_69 : decode b_C_buildLastLetters 69 = .ok (.aload_n 0, 1) := by decide +kernel
theorem d_C_buildLastLetters_70 : decode b_C_buildLastLetters 70 = .ok (.getfield 21, 3) := by decide +kernel
theorem d_C_buildLastLetters_73 : decode b_C_buildLastLetters 73 = .ok (.aload_n 1, 1) := by decide +kernel
theorem d_C_buildLastLetters_74 : decode b_C_buildLastLetters 74 = .ok (.iload 4, 2) := by decide +kernel
theorem d_C_buildLastLetters_76 : decode b_C_buildLastLetters 76 = .ok (.invokevirtual 179, 3) := by decide +kernel
theorem d_C_buildLastLetters_79 : decode b_C_buildLastLetters 79 = .ok (.invokestatic 325, 3) := by decide +kernel
theorem d_C_buildLastLetters_82 : decode b_C_buildLastLetters 82 = .ok (.invokevirtual 105, 3) := by decide +kernel
theorem d_C_buildLastLetters_85 : decode b_C_buildLastLetters 85 = .ok (.iinc 4 1, 3) := by decide +kernel
theorem d_C_buildLastLetters_88 : decode b_C_buildLastLetters 88 = .ok (.goto (-25), 3) := by decide +kernel
theorem d_C_buildLastLetters_91 : decode b_C_buildLastLetters 91 = .ok (.aload_n 0, 1) := by decide +kernel
theorem d_C_buildLastLetters_92 : decode b_C_buildLastLetters 92 = .ok (.getfield 21, 3) := by decide +kernel
theorem d_C_buildLastLetters_95 : decode b_C_buildLastLetters 95 = .ok (.invokevirtual 126, 3) := by decide +kernel
theorem d_C_buildLastLetters_98 : decode b_C_buildLastLetters 98 = .ok (.ifCond .eq 12, 3) := by decide +kernel
theorem d_C_buildLastLetters_101 : decode b_C_buildLastLetters 101 = .ok (.aload_n 0, 1) := by decide +kernel
theorem d_C_buildLastLetters_102 : decode b_C_buildLastLetters 102 = .ok (.getfield 21, 3) := by decide +kernel
theorem d_C_buildLastLetters_105 : decode b_C_buildLastLetters 105 = .ok (.bipush 110, 2) := by decide +kernel
theorem d_C_buildLastLetters_107 : decode b_C_buildLastLetters 107 = .ok (.invokevirtual 105, 3) := by decide +kernel
theorem d_C_buildLastLetters_110 : decode b_C_buildLastLetters 110 = .ok (.return_, 1) := by decide +kernel
theorem d_C_isSmallLetter_0 : decode b_C_isSmallLetter 0 = .ok (.iload_n 0, 1) := by decide +kernel
theorem d_C_isSmallLetter_1 : decode b_C_isSmallLetter 1 = .ok (.bipush 97, 2) := by decide +kernel
theorem d_C_isSmallLetter_3 : decode b_C_isSmallLetter 3 = .ok (.if_icmp .lt 13, 3) := by decide +kernel
theorem d_C_isSmallLetter_6 : decode b_C_isSmallLetter 6 = .ok (.iload_n 0, 1) := by decide +kernel
theorem d_C_isSmallLetter_7 : decode b_C_isSmallLetter 7 = .ok (.bipush 122, 2) := by decide +kernel
theorem d_C_isSmallLetter_9 : decode b_C_isSmallLetter 9 = .ok (.if_icmp .gt 7, 3) := by decide +kernel
theorem d_C_isSmallLetter_12 : decode b_C_isSmallLetter 12 = .ok (.iconst 1, 1) := by decide +kernel
theorem d_C_isSmallLetter_13 : decode b_C_isSmallLetter 13 = .ok (.goto 4, 3) := by decide +kernel
theorem d_C_isSmallLetter_16 : decode b_C_isSmallLetter 16 = .ok (.iconst 0, 1) := by decide +kernel
theorem d_C_isSmallLetter_17 : decode b_C_isSmallLetter 17 = .ok (.ireturn, 1) := by decide +kernel
theorem d_C_isGreatLetter_0 : decode b_C_isGreatLetter 0 = .ok (.iload_n 0, 1) := by decide +kernel
theorem d_C_isGreatLetter_1 : decode b_C_isGreatLetter 1 = .ok (.bipush 65, 2) := by decide +kernel
theorem d_C_isGreatLetter_3 : decode b_C_isGreatLetter 3 = .ok (.if_icmp .lt 13, 3) := by decide +kernel
theorem d_C_isGreatLetter_6 : decode b_C_isGreatLetter 6 = .ok (.iload_n 0, 1) := by decide +kernel
theorem d_C_isGreatLetter_7 : decode b_C_isGreatLetter 7 = .ok (.bipush 90, 2) := by decide +kernel
theorem d_C_isGreatLetter_9 : decode b_C_isGreatLetter 9 = .ok (.if_icmp .gt 7, 3) := by decide +kernel
theorem d_C_isGreatLetter_12 : decode b_C_isGreatLetter 12 = .ok (.iconst 1, 1) := by decide +kernel
theorem d_C_isGreatLetter_13 : decode b_C_isGreatLetter 13 = .ok (.goto 4, 3) := by decide +kernel
theorem d_C_isGreatLetter_16 : decode b_C_isGreatLetter 16 = .ok (.iconst 0, 1) := by decide +kernel
theorem d_C_isGreatLetter_17 : decode b_C_isGreatLetter 17 = .ok (.ireturn, 1) := by decide +kernel
theorem d_C_isLetter_0 : decode b_C_isLetter 0 = .ok (.iload_n 0, 1) := by decide +kernel
theorem d_C_isLetter_1 : decode b_C_isLetter 1 = .ok (.invokestatic 329, 3) := by decide +kernel
theorem d_C_isLetter_4 : decode b_C_isLetter 4 = .ok (.ifCond .ne 10, 3) := by decide +kernel
theorem d_C_isLetter_7 : decode b_C_isLetter 7 = .ok (.iload_n 0, 1) := by decide +kernel
theorem d_C_isLetter_8 : decode b_C_isLetter 8 = .ok (.invokestatic 332, 3) := by decide +kernel
theorem d_C_isLetter_11 : decode b_C_isLetter 11 = .ok (.ifCond .eq 7, 3) := by decide +kernel
theorem d_C_isLetter_14 : decode b_C_isLetter 14 = .ok (.iconst 1, 1) := by decide +kernel
theorem d_C_isLetter_15 : decode b_C_isLetter 15 = .ok (.goto 4, 3) := by decide +kernel
theorem d_C_isLetter_18 : decode b_C_isLetter 18 = .ok (.iconst 0, 1) := by decide +kernel
theorem d_C_isLetter_19 : decode b_C_isLetter 19 = .ok (.ireturn, 1) := by decide +kernel
theorem d_C_isDigit_0 : decode b_C_isDigit 0 = .ok (.iload_n 0, 1) := by decide +kernel
theorem d_C_isDigit_1 : decode b_C_isDigit 1 = .ok (.bipush 48, 2) := by decide +kernel
theorem d_C_isDigit_3 : decode b_C_isDigit 3 = .ok (.if_icmp .lt 13, 3) := by decide +kernel
theorem d_C_isDigit_6 : decode b_C_isDigit 6 = .ok (.iload_n 0, 1) := by decide +kernel
theorem d_C_isDigit_7 : decode b_C_isDigit 7 = .ok (.bipush 57, 2) := by decide +kernel
theorem d_C_isDigit_9 : decode b_C_isDigit 9 = .ok (.if_icmp .gt 7, 3) := by decide +kernel
theorem d_C_isDigit_12 : decode b_C_isDigit 12 = .ok (.iconst 1, 1) := by decide +kernel
theorem d_C_isDigit_13 : decode b_C_isDigit 13 = .ok (.goto 4, 3) := by decide +kernel
theorem d_C_isDigit_16 : decode b_C_isDigit 16 = .ok (.iconst 0, 1) := by decide +kernel
theorem d_C_isDigit_17 : decode b_C_isDigit 17 = .ok (.ireturn, 1) := by decide +kernel
theorem d_C_small_0 : decode b_C_small 0 = .ok (.iload_n 0, 1) := by decide +kernel
theorem d_C_small_1 : decode b_C_small 1 = .ok (.invokestatic 332, 3) := by decide +kernel
theorem d_C_small_4 : decode b_C_small 4 = .ok (.ifCond .eq 14, 3) := by decide +kernel
theorem d_C_small_7 : decode b_C_small 7 = .ok (.iload_n 0, 1) := by decide +kernel
theorem d_C_small_8 : decode b_C_small 8 = .ok (.bipush 65, 2) := by decide +kernel
theorem d_C_small_10 : decode b_C_small 10 = .ok (.isub, 1) := by decide +kernel
theorem d_C_small_11 : decode b_C_small 11 = .ok (.bipush 97, 2) := by decide +kernel
theorem d_C_small_13 : decode b_C_small 13 = .ok (.iadd, 1) := by decide +kernel
theorem d_C_small_14 : decode b_C_small 14 = .ok (.i2c, 1) := by decide +kernel
theorem d_C_small_15 : decode b_C_small 15 = .ok (.goto 4, 3) := by decide +kernel
theorem d_C_small_18 : decode b_C_small 18 = .ok (.iload_n 0, 1) := by decide +kernel
theorem d_C_small_19 : decode b_C_small 19 = .ok (.ireturn, 1) := by decide +kernel
theorem d_C_buildBesides_0 : decode b_C_buildBesides 0 = .ok (.aload_n 0, 1) := by decide +kernel
theorem d_C_buildBesides_1 : decode b_C_buildBesides 1 = .ok (.getfield 21, 3) := by decide +kernel
theorem d_C_buildBesides_4 : decode b_C_buildBesides 4 = .ok (.invokevirtual 113, 3) := by decide +kernel
theorem d_C_buildBesides_7 : decode b_C_buildBesides 7 = .ok (.aload_n 0, 1) := by decide +kernel
theorem d_C_buildBesides_8 : decode b_C_buildBesides 8 = .ok (.getfield 21, 3) := by decide +kernel
theorem d_C_buildBesides_11 : decode b_C_buildBesides 11 = .ok (.aload_n 1, 1) := by decide +kernel
theorem d_C_buildBesides_12 : decode b_C_buildBesides 12 = .ok (.iconst 0, 1) := by decide +kernel
theorem d_C_buildBesides_13 : decode b_C_buildBesides 13 = .ok (.aload_n 1, 1) := by decide +kernel
theorem d_C_buildBesides_14 : decode b_C_buildBesides 14 = .ok (.bipush 47, 2) := by decide +kernel
theorem d_C_buildBesides_16 : decode b_C_buildBesides 16 = .ok (.invokevirtual 335, 3) := by decide +kernel
theorem d_C_buildBesides_19 : decode b_C_buildBesides 19 = .ok (.iconst 1, 1) := by decide +kernel
theorem d_C_buildBesides_20 : decode b_C_buildBesides 20 = .ok (.iadd, 1) := by decide +kernel
theorem d_C_buildBesides_21 : decode b_C_buildBesides 21 = .ok (.invokevirtual 171, 3) := by decide +kernel
theorem d_C_buildBesides_24 : decode b_C_buildBesides 24 = .ok (.aload_n 0, 1) := by decide +kernel
theorem d_C_buildBesides_25 : decode b_C_buildBesides 25 = .ok (.getfield 21, 3) := by decide +kernel
theorem d_C_buildBesides_28 : decode b_C_buildBesides 28 = .ok (.aload_n 2, 1) := by decide +kernel
theorem d_C_buildBesides_29 : decode b_C_buildBesides 29 = .ok (.invokevirtual 186, 3) := by decide +kernel
theorem d_C_buildBesides_32 : decode b_C_buildBesides 32 = .ok (.return_, 1) := by decide +kernel
theorem d_C_buildWithin_0 : decode b_C_buildWithin 0 = .ok (.aload_n 1, 1) := by decide +kernel
theorem d_C_buildWithin_1 : decode b_C_buildWithin 1 = .ok (.bipush 35, 2) := by decide +kernel
theorem d_C_buildWithin_3 : decode b_C_buildWithin 3 = .ok (.invokevirtual 314, 3) := by decide +kernel
theorem d_C_buildWithin_6 : decode b_C_buildWithin 6 = .ok (.istore_n 3, 1) := by decide +kernel
theorem d_C_buildWithin_7 : decode b_C_buildWithin 7 = .ok (.aload_n 0, 1) := by decide +kernel
theorem d_C_buildWithin_8 : decode b_C_buildWithin 8 = .ok (.getfield 21, 3) := by decide +kernel
theorem d_C_buildWithin_11 : decode b_C_buildWithin 11 = .ok (.invokevirtual 113, 3) := by decide +kernel
theorem d_C_buildWithin_14 : decode b_C_buildWithin 14 = .ok (.aload_n 0, 1) := by decide +kernel
theorem d_C_buildWithin_15 : decode b_C_buildWithin 15 = .ok (.getfield 21, 3) := by decide +kernel
theorem d_C_buildWithin_18 : decode b_C_buildWithin 18 = .ok (.aload_n 1, 1) := by decide +kernel
theorem d_C_buildWithin_19 : decode b_C_buildWithin 19 = .ok (.iconst 0, 1) := by decide +kernel
theorem d_C_buildWithin_20 : decode b_C_buildWithin 20 = .ok (.iload_n 3, 1) := by decide +kernel
theorem d_C_buildWithin_21 : decode b_C_buildWithin 21 = .ok (.iconst (-1), 1) := by decide +kernel
theorem d_C_buildWithin_22 : decode b_C_buildWithin 22 = .ok (.if_icmp .ne 10, 3) := by decide +kernel
theorem d_C_buildWithin_25 : decode b_C_buildWithin 25 = .ok (.aload_n 1, 1) := by decide +kernel
theorem d_C_buildWithin_26 : decode b_C_buildWithin 26 = .ok (.invokevirtual 109, 3) := by decide +kernel
theorem d_C_buildWithin_29 : decode b_C_buildWithin 29 = .ok (.goto 4, 3) := by decide +kernel
theorem d_C_buildWithin_32 : decode b_C_buildWithin 32 = .ok (.iload_n 3, 1) := by decide +kernel
theorem d_C_buildWithin_33 : decode b_C_buildWithin 33 = .ok (.invokevirtual 171, 3) := by decide +kernel
theorem d_C_buildWithin_36 : decode b_C_buildWithin 36 = .ok (.aload_n 0, 1) := by decide +kernel
theorem d_C_buildWithin_37 : decode b_C_buildWithin 37 = .ok (.getfield 21, 3) := by decide +kernel
theorem d_C_buildWithin_40 : decode b_C_buildWithin 40 = .ok (.bipush 35, 2) := by decide +kernel
theorem d_C_buildWithin_42 : decode b_C_buildWithin 42 = .ok (.invokevirtual 105, 3) := by decide +kernel
theorem d_C_buildWithin_45 : decode b_C_buildWithin 45 = .ok (.aload_n 0, 1) := by decide +kernel
theorem d_C_buildWithin_46 : decode b_C_buildWithin 46 = .ok (.getfield 21, 3) := by decide +kernel
theorem d_C_buildWithin_49 : decode b_C_buildWithin 49 = .ok (.aload_n 2, 1) := by decide +kernel
theorem d_C_buildWithin_50 : decode b_C_buildWithin 50 = .ok (.invokevirtual 186, 3) := by decide +kernel
theorem d_C_buildWithin_53 : decode b_C_buildWithin 53 = .ok (.return_, 1) := by decide +kernel
theorem d_C_termText_0 : decode b_C_termText 0 = .ok (.aload_n 0, 1) := by decide +kernel
theorem d_C_termText_1 : decode b_C_termText 1 = .ok (.getfield 27, 3) := by decide +kernel
theorem d_C_termText_4 : decode b_C_termText 4 = .ok (.aload_n 0, 1) := by decide +kernel
theorem d_C_termText_5 : decode b_C_termText 5 = .ok (.getfield 43, 3) := by decide +kernel
theorem d_C_termText_8 : decode b_C_termText 8 = .ok (.iload_n 1, 1) := by decide +kernel
theorem d_C_termText_9 : decode b_C_termText 9 = .ok (.iconst 0, 1) := by decide +kernel
theorem d_C_termText_10 : decode b_C_termText 10 = .ok (.invokevirtual 214, 3) := by decide +kernel
theorem d_C_termText_13 : decode b_C_termText 13 = .ok (.invokevirtual 134, 3) := by decide +kernel
theorem d_C_termText_16 : decode b_C_termText 16 = .ok (.areturn, 1) := by decide +kernel
theorem d_C_spaceOfTerm_0 : decode b_C_spaceOfTerm 0 = .ok (.aload_n 0, 1) := by decide +kernel
theorem d_C_spaceOfTerm_1 : decode b_C_spaceOfTerm 1 = .ok (.getfield 36, 3) := by decide +kernel
theorem d_C_spaceOfTerm_4 : decode b_C_spaceOfTerm 4 = .ok (.aload_n 0, 1) := by decide +kernel
theorem d_C_spaceOfTerm_5 : decode b_C_spaceOfTerm 5 = .ok (.getfield 43, 3) := by decide +kernel
theorem d_C_spaceOfTerm_8 : decode b_C_spaceOfTerm 8 = .ok (.iload_n 1, 1) := by decide +kernel
theorem d_C_spaceOfTerm_9 : decode b_C_spaceOfTerm 9 = .ok (.iconst 0, 1) := by decide +kernel
theorem d_C_spaceOfTerm_10 : decode b_C_spaceOfTerm 10 = .ok (.invokevirtual 214, 3) := by decide +kernel
theorem d_C_spaceOfTerm_13 : decode b_C_spaceOfTerm 13 = .ok (.invokevirtual 155, 3) := by decide +kernel
theorem d_C_spaceOfTerm_16 : decode b_C_spaceOfTerm 16 = .ok (.ireturn, 1) := by decide +kernel
theorem d_C_isInSpace_0 : decode b_C_isInSpace 0 = .ok (.aload_n 0, 1) := by decide +kernel
theorem d_C_isInSpace_1 : decode b_C_isInSpace 1 = .ok (.iload_n 1, 1) := by decide +kernel
theorem d_C_isInSpace_2 : decode b_C_isInSpace 2 = .ok (.invokevirtual 338, 3) := by decide +kernel
theorem d_C_isInSpace_5 : decode b_C_isInSpace 5 = .ok (.iload_n 2, 1) := by decide +kernel
theorem d_C_isInSpace_6 : decode b_C_isInSpace 6 = .ok (.if_icmp .ne 7, 3) := by decide +kernel
theorem d_C_isInSpace_9 : decode b_C_isInSpace 9 = .ok (.iconst 1, 1) := by decide +kernel
theorem d_C_isInSpace_10 : decode b_C_isInSpace 10 = .ok (.goto 4, 3) := by decide +kernel
theorem d_C_isInSpace_13 : decode b_C_isInSpace 13 = .ok (.iconst 0, 1) := by decide +kernel
theorem d_C_isInSpace_14 : decode b_C_isInSpace 14 = .ok (.ireturn, 1) := by decide +kernel
theorem d_C_rowsBefore_0 : decode b_C_rowsBefore 0 = .ok (.aload_n 0, 1) := by decide +kernel
theorem d_C_rowsBefore_1 : decode b_C_rowsBefore 1 = .ok (.iload_n 1, 1) := by decide +kernel
theorem d_C_rowsBefore_2 : decode b_C_rowsBefore 2 = .ok (.invokevirtual 341, 3) := by decide +kernel
theorem d_C_rowsBefore_5 : decode b_C_rowsBefore 5 = .ok (.astore_n 3, 1) := by decide +kernel
theorem d_C_rowsBefore_6 : decode b_C_rowsBefore 6 = .ok (.iconst 0, 1) := by decide +kernel
theorem d_C_rowsBefore_7 : decode b_C_rowsBefore 7 = .ok (.istore 4, 2) := by decide +kernel
theorem d_C_rowsBefore_9 : decode b_C_rowsBefore 9 = .ok (.iconst 0, 1) := by decide +kernel
theorem d_C_rowsBefore_10 : decode b_C_rowsBefore 10 = .ok (.istore 5, 2) := by decide +kernel
theorem d_C_rowsBefore_12 : decode b_C_rowsBefore 12 = .ok (.iload 5, 2) := by decide +kernel
theorem d_C_rowsBefore_14 : decode b_C_rowsBefore 14 = .ok (.aload_n 0, 1) := by decide +kernel
theorem d_C_rowsBefore_15 : decode b_C_rowsBefore 15 = .ok (.getfield 43, 3) := by decide +kernel
theorem d_C_rowsBefore_18 : decode b_C_rowsBefore 18 = .ok (.invokevirtual 220, 3) := by decide +kernel
theorem d_C_rowsBefore_21 : decode b_C_rowsBefore 21 = .ok (.if_icmp .ge 35, 3) := by decide +kernel
theorem d_C_rowsBefore_24 : decode b_C_rowsBefore 24 = .ok (.aload_n 0, 1) := by decide +kernel
theorem d_C_rowsBefore_25 : decode b_C_rowsBefore 25 = .ok (.iload 5, 2) := by decide +kernel
theorem d_C_rowsBefore_27 : decode b_C_rowsBefore 27 = .ok (.invokevirtual 341, 3) := by decide +kernel
theorem d_C_rowsBefore_30 : decode b_C_rowsBefore 30 = .ok (.aload_n 3, 1) := by decide +kernel
theorem d_C_rowsBefore_31 : decode b_C_rowsBefore 31 = .ok (.invokevirtual 344, 3) := by decide +kernel
theorem d_C_rowsBefore_34 : decode b_C_rowsBefore 34 = .ok (.ifCond .ge 16, 3) := by decide +kernel
theorem d_C_rowsBefore_37 : decode b_C_rowsBefore 37 = .ok (.aload_n 0, 1) := by decide +kernel
theorem d_C_rowsBefore_38 : decode b_C_rowsBefore 38 = .ok (.iload 5, 2) := by decide +kernel
theorem d_C_rowsBefore_40 : decode b_C_rowsBefore 40 = .ok (.iload_n 2, 1) := by decide +kernel
theorem d_C_rowsBefore_41 : decode b_C_rowsBefore 41 = .ok (.invokevirtual 223, 3) := by decide +kernel
theorem d_C_rowsBefore_44 : decode b_C_rowsBefore 44 = .ok (.ifCond .eq 6, 3) := by decide +kernel
theorem d_C_rowsBefore_47 : decode b_C_rowsBefore 47 = .ok (.iinc 4 1, 3) := by decide +kernel
theorem d_C_rowsBefore_50 : decode b_C_rowsBefore 50 = .ok (.iinc 5 1, 3) := by decide +kernel
theorem d_C_rowsBefore_53 : decode b_C_rowsBefore 53 = .ok (.goto (-41), 3) := by decide +kernel
theorem d_C_rowsBefore_56 : decode b_C_rowsBefore 56 = .ok (.iload 4, 2) := by decide +kernel
theorem d_C_rowsBefore_58 : decode b_C_rowsBefore 58 = .ok (.ireturn, 1) := by decide +kernel
theorem d_C_markTermSpaces_0 : decode b_C_markTermSpaces 0 = .ok (.iconst 0, 1) := by decide +kernel
theorem d_C_markTermSpaces_1 : decode b_C_markTermSpaces 1 = .ok (.istore_n 1, 1) := by decide +kernel
theorem d_C_markTermSpaces_2 : decode b_C_markTermSpaces 2 = .ok (.iload_n 1, 1) := by decide +kernel
theorem d_C_markTermSpaces_3 : decode b_C_markTermSpaces 3 = .ok (.aload_n 0, 1) := by decide +kernel
theorem d_C_markTermSpaces_4 : decode b_C_markTermSpaces 4 = .ok (.getfield 72, 3) := by decide +kernel
theorem d_C_markTermSpaces_7 : decode b_C_markTermSpaces 7 = .ok (.arraylength, 1) := by decide +kernel
theorem d_C_markTermSpaces_8 : decode b_C_markTermSpaces 8 = .ok (.if_icmp .ge 16, 3) := by decide +kernel
theorem d_C_markTermSpaces_11 : decode b_C_markTermSpaces 11 = .ok (.aload_n 0, 1) := by decide +kernel
theorem d_C_markTermSpaces_12 : decode b_C_markTermSpaces 12 = .ok (.getfield 72, 3) := by decide +kernel
theorem d_C_markTermSpaces_15 : decode b_C_markTermSpaces 15 = .ok (.iload_n 1, 1) := by decide +kernel
theorem d_C_markTermSpaces_16 : decode b_C_markTermSpaces 16 = .ok (.iconst 0, 1) := by decide +kernel
theorem d_C_markTermSpaces_17 : decode b_C_markTermSpaces 17 = .ok (.bastore, 1) := by decide +kernel
theorem d_C_markTermSpaces_18 : decode b_C_markTermSpaces 18 = .ok (.iinc 1 1, 3) := by decide +kernel
theorem d_C_markTermSpaces_21 : decode b_C_markTermSpaces 21 = .ok (.goto (-19), 3) := by decide +kernel
theorem d_C_markTermSpaces_24 : decode b_C_markTermSpaces 24 = .ok (.iconst 0, 1) := by decide +kernel
theorem d_C_markTermSpaces_25 : decode b_C_markTermSpaces 25 = .ok (.istore_n 1, 1) := by decide +kernel
theorem d_C_markTermSpaces_26 : decode b_C_markTermSpaces 26 = .ok (.iload_n 1, 1) := by decide +kernel
theorem d_C_markTermSpaces_27 : decode b_C_markTermSpaces 27 = .ok (.aload_n 0, 1) := by decide +kernel
theorem d_C_markTermSpaces_28 : decode b_C_markTermSpaces 28 = .ok (.getfield 43, 3) := by decide +kernel
theorem d_C_markTermSpaces_31 : decode b_C_markTermSpaces 31 = .ok (.invokevirtual 220, 3) := by decide +kernel
theorem d_C_markTermSpaces_34 : decode b_C_markTermSpaces 34 = .ok (.if_icmp .ge 27, 3) := by decide +kernel
theorem d_C_markTermSpaces_37 : decode b_C_markTermSpaces 37 = .ok (.aload_n 0, 1) := by decide +kernel
theorem d_C_markTermSpaces_38 : decode b_C_markTermSpaces 38 = .ok (.iload_n 1, 1) := by decide +kernel
theorem d_C_markTermSpaces_39 : decode b_C_markTermSpaces 39 = .ok (.invokevirtual 338, 3) := by decide +kernel
theorem d_C_markTermSpaces_42 : decode b_C_markTermSpaces 42 = .ok (.istore_n 2, 1) := by decide +kernel
theorem d_C_markTermSpaces_43 : decode b_C_markTermSpaces 43 = .ok (.iload_n 2, 1) := by decide +kernel
theorem d_C_markTermSpaces_44 : decode b_C_markTermSpaces 44 = .ok (.iconst (-1), 1) := by decide +kernel
theorem d_C_markTermSpaces_45 : decode b_C_markTermSpaces 45 = .ok (.if_icmp .eq 10, 3) := by decide +kernel
theorem d_C_markTermSpaces_48 : decode b_C_markTermSpaces 48 = .ok (.aload_n 0, 1) := by decide +kernel
theorem d_C_markTermSpaces_49 : decode b_C_markTermSpaces 49 = .ok (.getfield 72, 3) := by decide +kernel
theorem d_C_markTermSpaces_52 : decode b_C_markTermSpaces 52 = .ok (.iload_n 2, 1) := by decide +kernel
theorem d_C_markTermSpaces_53 : decode b_C_markTermSpaces 53 = .ok (.iconst 1, 1) := by decide +kernel
theorem d_C_markTermSpaces_54 : decode b_C_markTermSpaces 54 = .ok (.bastore, 1) := by decide +kernel
theorem d_C_markTermSpaces_55 : decode b_C_markTermSpaces 55 = .ok (.iinc 1 1, 3) := by decide +kernel
theorem d_C_markTermSpaces_58 : decode b_C_markTermSpaces 58 = .ok (.goto (-32), 3) := by decide +kernel
theorem d_C_markTermSpaces_61 : decode b_C_markTermSpaces 61 = .ok (.return_, 1) := by decide +kernel
theorem d_C_isUnknown_0 : decode b_C_isUnknown 0 = .ok (.aload_n 0, 1) := by decide +kernel
theorem d_C_isUnknown_1 : decode b_C_isUnknown 1 = .ok (.getfield 68, 3) := by decide +kernel
theorem d_C_isUnknown_4 : decode b_C_isUnknown 4 = .ok (.iload_n 1, 1) := by decide +kernel
theorem d_C_isUnknown_5 : decode b_C_isUnknown 5 = .ok (.iaload, 1) := by decide +kernel
theorem d_C_isUnknown_6 : decode b_C_isUnknown 6 = .ok (.ifCond .le 15, 3) := by decide +kernel
theorem d_C_isUnknown_9 : decode b_C_isUnknown 9 = .ok (.aload_n 0, 1) := by decide +kernel
theorem d_C_isUnknown_10 : decode b_C_isUnknown 10 = .ok (.getfield 43, 3) := by decide +kernel
theorem d_C_isUnknown_13 : decode b_C_isUnknown 13 = .ok (.iload_n 1, 1) := by decide +kernel
theorem d_C_isUnknown_14 : decode b_C_isUnknown 14 = .ok (.invokevirtual 194, 3) := by decide +kernel
theorem d_C_isUnknown_17 : decode b_C_isUnknown 17 = .ok (.iconst (-1), 1) := by decide +kernel
theorem d_C_isUnknown_18 : decode b_C_isUnknown 18 = .ok (.if_icmp .eq 5, 3) := by decide +kernel
theorem d_C_isUnknown_21 : decode b_C_isUnknown 21 = .ok (.iconst 0, 1) := by decide +kernel
theorem d_C_isUnknown_22 : decode b_C_isUnknown 22 = .ok (.ireturn, 1) := by decide +kernel
theorem d_C_isUnknown_23 : decode b_C_isUnknown 23 = .ok (.aload_n 0, 1) := by decide +kernel
theorem d_C_isUnknown_24 : decode b_C_isUnknown 24 = .ok (.getfield 36, 3) := by decide +kernel
theorem d_C_isUnknown_27 : decode b_C_isUnknown 27 = .ok (.iload_n 1, 1) := by decide +kernel
theorem d_C_isUnknown_28 : decode b_C_isUnknown 28 = .ok (.invokevirtual 155, 3) := by decide +kernel
theorem d_C_isUnknown_31 : decode b_C_isUnknown 31 = .ok (.istore_n 2, 1) := by decide +kernel
theorem d_C_isUnknown_32 : decode b_C_isUnknown 32 = .ok (.iload_n 2, 1) := by decide +kernel
theorem d_C_isUnknown_33 : decode b_C_isUnknown 33 = .ok (.iconst (-1), 1) := by decide +kernel
theorem d_C_isUnknown_34 : decode b_C_isUnknown 34 = .ok (.if_icmp .eq 16, 3) := by decide +kernel
theorem d_C_isUnknown_37 : decode b_C_isUnknown 37 = .ok (.aload_n 0, 1) := by decide +kernel
theorem d_C_isUnknown_38 : decode b_C_isUnknown 38 = .ok (.getfield 72, 3) := by decide +kernel
theorem d_C_isUnknown_41 : decode b_C_isUnknown 41 = .ok (.iload_n 2, 1) := by decide +kernel
theorem d_C_isUnknown_42 : decode b_C_isUnknown 42 = .ok (.baload, 1) := by decide +kernel
theorem d_C_isUnknown_43 : decode b_C_isUnknown 43 = .ok (.ifCond .eq 7, 3) := by decide +kernel
theorem d_C_isUnknown_46 : decode b_C_isUnknown 46 = .ok (.iconst 1, 1) := by decide +kernel
theorem d_C_isUnknown_47 : decode b_C_isUnknown 47 = .ok (.goto 4, 3) := by decide +kernel
theorem d_C_isUnknown_50 : decode b_C_isUnknown 50 = .ok (.iconst 0, 1) := by decide +kernel
theorem d_C_isUnknown_51 : decode b_C_isUnknown 51 = .ok (.ireturn, 1) := by decide +kernel
theorem d_C_unknownNames_0 : decode b_C_unknownNames 0 = .ok (.aload_n 0, 1) := by decide +kernel
theorem d_C_unknownNames_1 : decode b_C_unknownNames 1 = .ok (.invokevirtual 230, 3) := by decide +kernel
theorem d_C_unknownNames_4 : decode b_C_unknownNames 4 = .ok (.iconst 0, 1) := by decide +kernel
theorem d_C_unknownNames_5 : decode b_C_unknownNames 5 = .ok (.istore_n 1, 1) := by decide +kernel
theorem d_C_unknownNames_6 : decode b_C_unknownNames 6 = .ok (.iconst 0, 1) := by decide +kernel
theorem d_C_unknownNames_7 : decode b_C_unknownNames 7 = .ok (.istore_n 2, 1) := by decide +kernel
theorem d_C_unknownNames_8 : decode b_C_unknownNames 8 = .ok (.iload_n 2, 1) := by decide +kernel
theorem d_C_unknownNames_9 : decode b_C_unknownNames 9 = .ok (.aload_n 0, 1) := by decide +kernel
theorem d_C_unknownNames_10 : decode b_C_unknownNames 10 = .ok (.getfield 27, 3) := by decide +kernel
theorem d_C_unknownNames_13 : decode b_C_unknownNames 13 = .ok (.invokevirtual 233, 3) := by decide +kernel
theorem d_C_unknownNames_16 : decode b_C_unknownNames 16 = .ok (.if_icmp .ge 20, 3) := by decide +kernel
theorem d_C_unknownNames_19 : decode b_C_unknownNames 19 = .ok (.aload_n 0, 1) := by decide +kernel
theorem d_C_unknownNames_20 : decode b_C_unknownNames 20 = .ok (.iload_n 2, 1) := by decide +kernel
theorem d_C_unknownNames_21 : decode b_C_unknownNames 21 = .ok (.invokevirtual 234, 3) := by decide +kernel
theorem d_C_unknownNames_24 : decode b_C_unknownNames 24 = .ok (.ifCond .eq 6, 3) := by decide +kernel
theorem d_C_unknownNames_27 : decode b_C_unknownNames 27 = .ok (.iinc 1 1, 3) := by decide +kernel
theorem d_C_unknownNames_30 : decode b_C_unknownNames 30 = .ok (.iinc 2 1, 3) := by decide +kernel
theorem d_C_unknownNames_33 : decode b_C_unknownNames 33 = .ok (.goto (-25), 3) := by decide +kernel
theorem d_C_unknownNames_36 : decode b_C_unknownNames 36 = .ok (.iload_n 1, 1) := by decide +kernel
theorem d_C_unknownNames_37 : decode b_C_unknownNames 37 = .ok (.ireturn, 1) := by decide +kernel
theorem d_C_measureTerms_0 : decode b_C_measureTerms 0 = .ok (.aload_n 0, 1) := by decide +kernel
theorem d_C_measureTerms_1 : decode b_C_measureTerms 1 = .ok (.getfield 27, 3) := by decide +kernel
theorem d_C_measureTerms_4 : decode b_C_measureTerms 4 = .ok (.iload_n 1, 1) := by decide +kernel
theorem d_C_measureTerms_5 : decode b_C_measureTerms 5 = .ok (.invokevirtual 134, 3) := by decide +kernel
theorem d_C_measureTerms_8 : decode b_C_measureTerms 8 = .ok (.astore_n 2, 1) := by decide +kernel
theorem d_C_measureTerms_9 : decode b_C_measureTerms 9 = .ok (.iconst 0, 1) := by decide +kernel
theorem d_C_measureTerms_10 : decode b_C_measureTerms 10 = .ok (.istore_n 3, 1) := by decide +kernel
theorem d_C_measureTerms_11 : decode b_C_measureTerms 11 = .ok (.iload_n 3, 1) := by decide +kernel
theorem d_C_measureTerms_12 : decode b_C_measureTerms 12 = .ok (.aload_n 0, 1) := by decide +kernel
theorem d_C_measureTerms_13 : decode b_C_measureTerms 13 = .ok (.getfield 43, 3) := by decide +kernel
theorem d_C_measureTerms_16 : decode b_C_measureTerms 16 = .ok (.invokevirtual 220, 3) := by decide +kernel
theorem d_C_measureTerms_19 : decode b_C_measureTerms 19 = .ok (.if_icmp .ge 28, 3) := by decide +kernel
theorem d_C_measureTerms_22 : decode b_C_measureTerms 22 = .ok (.aload_n 0, 1) := by decide +kernel
theorem d_C_measureTerms_23 : decode b_C_measureTerms 23 = .ok (.getfield 76, 3) := by decide +kernel
theorem d_C_measureTerms_26 : decode b_C_measureTerms 26 = .ok (.iload_n 3, 1) := by decide +kernel
theorem d_C_measureTerms_27 : decode b_C_measureTerms 27 = .ok (.aload_n 0, 1) := by decide +kernel
theorem d_C_measureTerms_28 : decode b_C_measureTerms 28 = .ok (.getfield 64, 3) := by decide +kernel
theorem d_C_measureTerms_31 : decode b_C_measureTerms 31 = .ok (.aload_n 2, 1) := by decide +kernel
theorem d_C_measureTerms_32 : decode b_C_measureTerms 32 = .ok (.aload_n 0, 1) := by decide +kernel
theorem d_C_measureTerms_33 : decode b_C_measureTerms 33 = .ok (.iload_n 3, 1) := by decide +kernel
theorem d_C_measureTerms_34 : decode b_C_measureTerms 34 = .ok (.invokevirtual 341, 3) := by decide +kernel
theorem d_C_measureTerms_37 : decode b_C_measureTerms 37 = .ok (.invokevirtual 237, 3) := by decide +kernel
theorem d_C_measureTerms_40 : decode b_C_measureTerms 40 = .ok (.iastore, 1) := by decide +kernel
theorem d_C_measureTerms_41 : decode b_C_measureTerms 41 = .ok (.iinc 3 1, 3) := by decide +kernel
theorem d_C_measureTerms_44 : decode b_C_measureTerms 44 = .ok (.goto (-33), 3) := by decide +kernel
theorem d_C_measureTerms_47 : decode b_C_measureTerms 47 = .ok (.return_, 1) := by decide +kernel
theorem d_C_rowsNearer_0 : decode b_C_rowsNearer 0 = .ok (.iconst 0, 1) := by decide +kernel
theorem d_C_rowsNearer_1 : decode b_C_rowsNearer 1 = .ok (.istore_n 2, 1) := by decide +kernel
theorem d_C_rowsNearer_2 : decode b_C_rowsNearer 2 = .ok (.iconst 0, 1) := by decide +kernel
theorem d_C_rowsNearer_3 : decode b_C_rowsNearer 3 = .ok (.istore_n 3, 1) := by decide +kernel
theorem d_C_rowsNearer_4 : decode b_C_rowsNearer 4 = .ok (.iload_n 3, 1) := by decide +kernel
theorem d_C_rowsNearer_5 : decode b_C_rowsNearer 5 = .ok (.aload_n 0, 1) := by decide +kernel
theorem d_C_rowsNearer_6 : decode b_C_rowsNearer 6 = .ok (.getfield 43, 3) := by decide +kernel
theorem d_C_rowsNearer_9 : decode b_C_rowsNearer 9 = .ok (.invokevirtual 220, 3) := by decide +kernel
theorem d_C_rowsNearer_12 : decode b_C_rowsNearer 12 = .ok (.if_icmp .ge 59, 3) := by decide +kernel
theorem d_C_rowsNearer_15 : decode b_C_rowsNearer 15 = .ok (.aload_n 0, 1) := by decide +kernel
theorem d_C_rowsNearer_16 : decode b_C_rowsNearer 16 = .ok (.getfield 76, 3) := by decide +kernel
theorem d_C_rowsNearer_19 : decode b_C_rowsNearer 19 = .ok (.iload_n 3, 1) := by decide +kernel
theorem d_C_rowsNearer_20 : decode b_C_rowsNearer 20 = .ok (.iaload, 1) := by decide +kernel
theorem d_C_rowsNearer_21 : decode b_C_rowsNearer 21 = .ok (.aload_n 0, 1) := by decide +kernel
theorem d_C_rowsNearer_22 : decode b_C_rowsNearer 22 = .ok (.getfield 76, 3) := by decide +kernel
theorem d_C_rowsNearer_25 : decode b_C_rowsNearer 25 = .ok (.iload_n 1, 1) := by decide +kernel
theorem d_C_rowsNearer_26 : decode b_C_rowsNearer 26 = .ok (.iaload, 1) := by decide +kernel
theorem d_C_rowsNearer_27 : decode b_C_rowsNearer 27 = .ok (.if_icmp .ne 12, 3) := by decide +kernel
theorem d_C_rowsNearer_30 : decode b_C_rowsNearer 30 = .ok (.iload_n 3, 1) := by decide +kernel
theorem d_C_rowsNearer_31 : decode b_C_rowsNearer 31 = .ok (.iload_n 1, 1) := by decide +kernel
theorem d_C_rowsNearer_32 : decode b_C_rowsNearer 32 = .ok (.if_icmp .ge 7, 3) := by decide +kernel
theorem d_C_rowsNearer_35 : decode b_C_rowsNearer 35 = .ok (.iconst 1, 1) := by decide +kernel
theorem d_C_rowsNearer_36 : decode b_C_rowsNearer 36 = .ok (.goto 4, 3) := by decide +kernel
theorem d_C_rowsNearer_39 : decode b_C_rowsNearer 39 = .ok (.iconst 0, 1) := by decide +kernel
theorem d_C_rowsNearer_40 : decode b_C_rowsNearer 40 = .ok (.istore 4, 2) := by decide +kernel
theorem d_C_rowsNearer_42 : decode b_C_rowsNearer 42 = .ok (.aload_n 0, 1) := by decide +kernel
theorem d_C_rowsNearer_43 : decode b_C_rowsNearer 43 = .ok (.getfield 76, 3) := by decide +kernel
theorem d_C_rowsNearer_46 : decode b_C_rowsNearer 46 = .ok (.iload_n 3, 1) := by decide +kernel
theorem d_C_rowsNearer_47 : decode b_C_rowsNearer 47 = .ok (.iaload, 1) := by decide +kernel
theorem d_C_rowsNearer_48 : decode b_C_rowsNearer 48 = .ok (.aload_n 0, 1) := by decide +kernel
theorem d_C_rowsNearer_49 : decode b_C_rowsNearer 49 = .ok (.getfield 76, 3) := by decide +kernel
theorem d_C_rowsNearer_52 : decode b_C_rowsNearer 52 = .ok (.iload_n 1, 1) := by decide +kernel
theorem d_C_rowsNearer_53 : decode b_C_rowsNearer 53 = .ok (.iaload, 1) := by decide +kernel
theorem d_C_rowsNearer_54 : decode b_C_rowsNearer 54 = .ok (.if_icmp .lt 8, 3) := by decide +kernel
theorem d_C_rowsNearer_57 : decode b_C_rowsNearer 57 = .ok (.iload 4, 2) := by decide +kernel
theorem d_C_rowsNearer_59 : decode b_C_rowsNearer 59 = .ok (.ifCond .eq 6, 3) := by decide +kernel
theorem d_C_rowsNearer_62 : decode b_C_rowsNearer 62 = .ok (.iinc 2 1, 3) := by decide +kernel
theorem d_C_rowsNearer_65 : decode b_C_rowsNearer 65 = .ok (.iinc 3 1, 3) := by decide +kernel
theorem d_C_rowsNearer_68 : decode b_C_rowsNearer 68 = .ok (.goto (-64), 3) := by decide +kernel
theorem d_C_rowsNearer_71 : decode b_C_rowsNearer 71 = .ok (.iload_n 2, 1) := by decide +kernel
theorem d_C_rowsNearer_72 : decode b_C_rowsNearer 72 = .ok (.ireturn, 1) := by decide +kernel
theorem d_C_renameClashes_0 : decode b_C_renameClashes 0 = .ok (.aload_n 0, 1) := by decide +kernel
theorem d_C_renameClashes_1 : decode b_C_renameClashes 1 = .ok (.getfield 43, 3) := by decide +kernel
theorem d_C_renameClashes_4 : decode b_C_renameClashes 4 = .ok (.iload_n 1, 1) := by decide +kernel
theorem d_C_renameClashes_5 : decode b_C_renameClashes 5 = .ok (.invokevirtual 194, 3) := by decide +kernel
theorem d_C_renameClashes_8 : decode b_C_renameClashes 8 = .ok (.istore_n 3, 1) := by decide +kernel
theorem d_C_renameClashes_9 : decode b_C_renameClashes 9 = .ok (.aload_n 0, 1) := by decide +kernel
theorem d_C_renameClashes_10 : decode b_C_renameClashes 10 = .ok (.getfield 43, 3) := by decide +kernel
theorem d_C_renameClashes_13 : decode b_C_renameClashes 13 = .ok (.iload_n 2, 1) := by decide +kernel
theorem d_C_renameClashes_14 : decode b_C_renameClashes 14 = .ok (.invokevirtual 194, 3) := by decide +kernel
theorem d_C_renameClashes_17 : decode b_C_renameClashes 17 = .ok (.istore 4, 2) := by decide +kernel
theorem d_C_renameClashes_19 : decode b_C_renameClashes 19 = .ok (.iload_n 3, 1) := by decide +kernel
theorem d_C_renameClashes_20 : decode b_C_renameClashes 20 = .ok (.iconst (-1), 1) := by decide +kernel
theorem d_C_renameClashes_21 : decode b_C_renameClashes 21 = .ok (.if_icmp .eq 19, 3) := by decide +kernel
theorem d_C_renameClashes_24 : decode b_C_renameClashes 24 = .ok (.iload 4, 2) := by decide +kernel
theorem d_C_renameClashes_26 : decode b_C_renameClashes 26 = .ok (.iconst (-1), 1) := by decide +kernel
theorem d_C_renameClashes_27 : decode b_C_renameClashes 27 = .ok (.if_icmp .eq 13, 3) := by decide +kernel
theorem d_C_renameClashes_30 : decode b_C_renameClashes 30 = .ok (.aload_n 0, 1) := by decide +kernel
theorem d_C_renameClashes_31 : decode b_C_renameClashes 31 = .ok (.iconst 4, 1) := by decide +kernel
theorem d_C_renameClashes_32 : decode b_C_renameClashes 32 = .ok (.iload_n 3, 1) := by decide +kernel
theorem d_C_renameClashes_33 : decode b_C_renameClashes 33 = .ok (.iload 4, 2) := by decide +kernel
theorem d_C_renameClashes_35 : decode b_C_renameClashes 35 = .ok (.invokevirtual 147, 3) := by decide +kernel
theorem d_C_renameClashes_38 : decode b_C_renameClashes 38 = .ok (.iconst 1, 1) := by decide +kernel
theorem d_C_renameClashes_39 : decode b_C_renameClashes 39 = .ok (.ireturn, 1) := by decide +kernel
theorem d_C_renameClashes_40 : decode b_C_renameClashes 40 = .ok (.aload_n 0, 1) := by decide +kernel
theorem d_C_renameClashes_41 : decode b_C_renameClashes 41 = .ok (.getfield 50, 3) := by decide +kernel
theorem d_C_renameClashes_44 : decode b_C_renameClashes 44 = .ok (.iload_n 1, 1) := by decide +kernel
theorem d_C_renameClashes_45 : decode b_C_renameClashes 45 = .ok (.invokevirtual 347, 3) := by decide +kernel
theorem d_C_renameClashes_48 : decode b_C_renameClashes 48 = .ok (.iconst (-1), 1) := by decide +kernel
theorem d_C_renameClashes_49 : decode b_C_renameClashes 49 = .ok (.if_icmp .eq 38, 3) := by decide +kernel
theorem d_C_renameClashes_52 : decode b_C_renameClashes 52 = .ok (.aload_n 0, 1) := by decide +kernel
theorem d_C_renameClashes_53 : decode b_C_renameClashes 53 = .ok (.getfield 50, 3) := by decide +kernel
theorem d_C_renameClashes_56 : decode b_C_renameClashes 56 = .ok (.iload_n 2, 1) := by decide +kernel
theorem d_C_renameClashes_57 : decode b_C_renameClashes 57 = .ok (.invokevirtual 347, 3) := by decide +kernel
theorem d_C_renameClashes_60 : decode b_C_renameClashes 60 = .ok (.iconst (-1), 1) := by decide +kernel
theorem d_C_renameClashes_61 : decode b_C_renameClashes 61 = .ok (.if_icmp .eq 26, 3) := by decide +kernel
theorem d_C_renameClashes_64 : decode b_C_renameClashes 64 = .ok (.aload_n 0, 1) := by decide +kernel
theorem d_C_renameClashes_65 : decode b_C_renameClashes 65 = .ok (.iconst 5, 1) := by decide +kernel
theorem d_C_renameClashes_66 : decode b_C_renameClashes 66 = .ok (.aload_n 0, 1) := by decide +kernel
theorem d_C_renameClashes_67 : decode b_C_renameClashes 67 = .ok (.getfield 50, 3) := by decide +kernel
theorem d_C_renameClashes_70 : decode b_C_renameClashes 70 = .ok (.iload_n 1, 1) := by decide +kernel
theorem d_C_renameClashes_71 : decode b_C_renameClashes 71 = .ok (.invokevirtual 347, 3) := by decide +kernel
theorem d_C_renameClashes_74 : decode b_C_renameClashes 74 = .ok (.aload_n 0, 1) := by decide +kernel
theorem d_C_renameClashes_75 : decode b_C_renameClashes 75 = .ok (.getfield 50, 3) := by decide +kernel
theorem d_C_renameClashes_78 : decode b_C_renameClashes 78 = .ok (.iload_n 2, 1) := by decide +kernel
theorem d_C_renameClashes_79 : decode b_C_renameClashes 79 = .ok (.invokevirtual 347, 3) := by decide +kernel
theorem d_C_renameClashes_82 : decode b_C_renameClashes 82 = .ok (.invokevirtual 147, 3) := by decide +kernel
theorem d_C_renameClashes_85 : decode b_C_renameClashes 85 = .ok (.iconst 1, 1) := by decide +kernel
theorem d_C_renameClashes_86 : decode b_C_renameClashes 86 = .ok (.ireturn, 1) := by decide +kernel
theorem d_C_renameClashes_87 : decode b_C_renameClashes 87 = .ok (.aload_n 0, 1) := by decide +kernel
theorem d_C_renameClashes_88 : decode b_C_renameClashes 88 = .ok (.getfield 50, 3) := by decide +kernel
theorem d_C_renameClashes_91 : decode b_C_renameClashes 91 = .ok (.iload_n 1, 1) := by decide +kernel
theorem d_C_renameClashes_92 : decode b_C_renameClashes 92 = .ok (.iload_n 2, 1) := by decide +kernel
theorem d_C_renameClashes_93 : decode b_C_renameClashes 93 = .ok (.invokevirtual 247, 3) := by decide +kernel
theorem d_C_renameClashes_96 : decode b_C_renameClashes 96 = .ok (.ifCond .ne 15, 3) := by decide +kernel
theorem d_C_renameClashes_99 : decode b_C_renameClashes 99 = .ok (.aload_n 0, 1) := by decide +kernel
theorem d_C_renameClashes_100 : decode b_C_renameClashes 100 = .ok (.getfield 50, 3) := by decide +kernel
theorem d_C_renameClashes_103 : decode b_C_renameClashes 103 = .ok (.iload_n 2, 1) := by decide +kernel
theorem d_C_renameClashes_104 : decode b_C_renameClashes 104 = .ok (.iload_n 1, 1) := by decide +kernel
theorem d_C_renameClashes_105 : decode b_C_renameClashes 105 = .ok (.invokevirtual 247, 3) := by decide +kernel
theorem d_C_renameClashes_108 : decode b_C_renameClashes 108 = .ok (.ifCond .eq 12, 3) := by decide +kernel
theorem d_C_renameClashes_111 : decode b_C_renameClashes 111 = .ok (.aload_n 0, 1) := by decide +kernel
theorem d_C_renameClashes_112 : decode b_C_renameClashes 112 = .ok (.iconst 3, 1) := by decide +kernel
theorem d_C_renameClashes_113 : decode b_C_renameClashes 113 = .ok (.iload_n 1, 1) := by decide +kernel
theorem d_C_renameClashes_114 : decode b_C_renameClashes 114 = .ok (.iload_n 2, 1) := by decide +kernel
theorem d_C_renameClashes_115 : decode b_C_renameClashes 115 = .ok (.invokevirtual 147, 3) := by decide +kernel
theorem d_C_renameClashes_118 : decode b_C_renameClashes 118 = .ok (.iconst 1, 1) := by decide +kernel
theorem d_C_renameClashes_119 : decode b_C_renameClashes 119 = .ok (.ireturn, 1) := by decide +kernel
theorem d_C_renameClashes_120 : decode b_C_renameClashes 120 = .ok (.iconst 0, 1) := by decide +kernel
theorem d_C_renameClashes_121 : decode b_C_renameClashes 121 = .ok (.ireturn, 1) := by decide +kernel
theorem d_C_moveUses_0 : decode b_C_moveUses 0 = .ok (.aload_n 0, 1) := by decide +kernel
theorem d_C_moveUses_1 : decode b_C_moveUses 1 = .ok (.getfield 68, 3) := by decide +kernel
theorem d_C_moveUses_4 : decode b_C_moveUses 4 = .ok (.iload_n 1, 1) := by decide +kernel
theorem d_C_moveUses_5 : decode b_C_moveUses 5 = .ok (.iaload, 1) := by decide +kernel
theorem d_C_moveUses_6 : decode b_C_moveUses 6 = .ok (.ifCond .ne 5, 3) := by decide +kernel
theorem d_C_moveUses_9 : decode b_C_moveUses 9 = .ok (.iconst 0, 1) := by decide +kernel
theorem d_C_moveUses_10 : decode b_C_moveUses 10 = .ok (.ireturn, 1) := by decide +kernel
theorem d_C_moveUses_11 : decode b_C_moveUses 11 = .ok (.aload_n 0, 1) := by decide +kernel
theorem d_C_moveUses_12 : decode b_C_moveUses 12 = .ok (.getfield 68, 3) := by decide +kernel
theorem d_C_moveUses_15 : decode b_C_moveUses 15 = .ok (.iload_n 2, 1) := by decide +kernel
theorem d_C_moveUses_16 : decode b_C_moveUses 16 = .ok (.dup2, 1) := by decide +kernel
theorem d_C_moveUses_17 : decode b_C_moveUses 17 = .ok (.iaload, 1) := by decide +kernel
theorem d_C_moveUses_18 : decode b_C_moveUses 18 = .ok (.aload_n 0, 1) := by decide +kernel
theorem d_C_moveUses_19 : decode b_C_moveUses 19 = .ok (.getfield 68, 3) := by decide +kernel
theorem d_C_moveUses_22 : decode b_C_moveUses 22 = .ok (.iload_n 1, 1) := by decide +kernel
theorem d_C_moveUses_23 : decode b_C_moveUses 23 = .ok (.iaload, 1) := by decide +kernel
theorem d_C_moveUses_24 : decode b_C_moveUses 24 = .ok (.iadd, 1) := by decide +kernel
theorem d_C_moveUses_25 : decode b_C_moveUses 25 = .ok (.iastore, 1) := by decide +kernel
theorem d_C_moveUses_26 : decode b_C_moveUses 26 = .ok (.aload_n 0, 1) := by decide +kernel
theorem d_C_moveUses_27 : decode b_C_moveUses 27 = .ok (.getfield 68, 3) := by decide +kernel
theorem d_C_moveUses_30 : decode b_C_moveUses 30 = .ok (.iload_n 1, 1) := by decide +kernel
theorem d_C_moveUses_31 : decode b_C_moveUses 31 = .ok (.iconst 0, 1) := by decide +kernel
theorem d_C_moveUses_32 : decode b_C_moveUses 32 = .ok (.iastore, 1) := by decide +kernel
theorem d_C_moveUses_33 : decode b_C_moveUses 33 = .ok (.iconst 1, 1) := by decide +kernel
theorem d_C_moveUses_34 : decode b_C_moveUses 34 = .ok (.ireturn, 1) := by decide +kernel
end
section
theorem d_L_type_0 : decode b_L_type 0 = .ok (.aload_n 2, 1) := by decide +kernel
theorem d_L_type_1 : decode b_L_type 1 = .ok (.iconst 0, 1) := by decide +kernel
theorem d_L_type_2 : decode b_L_type 2 = .ok (.aload_n 0, 1) := by decide +kernel
theorem d_L_type_3 : decode b_L_type 3 = .ok (.iload_n 1, 1) := by decide +kernel
theorem d_L_type_4 : decode b_L_type 4 = .ok (.invokevirtual 7, 3) := by decide +kernel
theorem d_L_type_7 : decode b_L_type 7 = .ok (.i2l, 1) := by decide +kernel
theorem d_L_type_8 : decode b_L_type 8 = .ok (.lastore, 1) := by decide +kernel
theorem d_L_type_9 : decode b_L_type 9 = .ok (.goto 9, 3) := by decide +kernel
theorem d_L_type_12 : decode b_L_type 12 = .ok (.astore_n 3, 1) := by decide +kernel
theorem d_L_type_13 : decode b_L_type 13 = .ok (.iconst 1, 1) := by decide +kernel
theorem d_L_type_14 : decode b_L_type 14 = .ok (.ireturn, 1) := by decide +kernel
theorem d_L_type_15 : decode b_L_type 15 = .ok (.astore_n 3, 1) := by decide +kernel
theorem d_L_type_16 : decode b_L_type 16 = .ok (.iconst 2, 1) := by decide +kernel
theorem d_L_type_17 : decode b_L_type 17 = .ok (.ireturn, 1) := by decide +kernel
theorem d_L_type_18 : decode b_L_type 18 = .ok (.iconst 0, 1) := by decide +kernel
theorem d_L_type_19 : decode b_L_type 19 = .ok (.ireturn, 1) := by decide +kernel
theorem d_L_name_0 : decode b_L_name 0 = .ok (.aload_n 1, 1) := by decide +kernel
theorem d_L_name_1 : decode b_L_name 1 = .ok (.iconst 0, 1) := by decide +kernel
theorem d_L_name_2 : decode b_L_name 2 = .ok (.aload_n 0, 1) := by decide +kernel
theorem d_L_name_3 : decode b_L_name 3 = .ok (.invokevirtual 17, 3) := by decide +kernel
theorem d_L_name_6 : decode b_L_name 6 = .ok (.i2l, 1) := by decide +kernel
theorem d_L_name_7 : decode b_L_name 7 = .ok (.lastore, 1) := by decide +kernel
theorem d_L_name_8 : decode b_L_name 8 = .ok (.goto 9, 3) := by decide +kernel
theorem d_L_name_11 : decode b_L_name 11 = .ok (.astore_n 2, 1) := by decide +kernel
theorem d_L_name_12 : decode b_L_name 12 = .ok (.iconst 1, 1) := by decide +kernel
theorem d_L_name_13 : decode b_L_name 13 = .ok (.ireturn, 1) := by decide +kernel
theorem d_L_name_14 : decode b_L_name 14 = .ok (.astore_n 2, 1) := by decide +kernel
theorem d_L_name_15 : decode b_L_name 15 = .ok (.iconst 2, 1) := by decide +kernel
theorem d_L_name_16 : decode b_L_name 16 = .ok (.ireturn, 1) := by decide +kernel
theorem d_L_name_17 : decode b_L_name 17 = .ok (.iconst 0, 1) := by decide +kernel
theorem d_L_name_18 : decode b_L_name 18 = .ok (.ireturn, 1) := by decide +kernel
theorem d_L_expand_0 : decode b_L_expand 0 = .ok (.aload_n 1, 1) := by decide +kernel
theorem d_L_expand_1 : decode b_L_expand 1 = .ok (.iconst 0, 1) := by decide +kernel
theorem d_L_expand_2 : decode b_L_expand 2 = .ok (.aload_n 0, 1) := by decide +kernel
theorem d_L_expand_3 : decode b_L_expand 3 = .ok (.invokevirtual 23, 3) := by decide +kernel
theorem d_L_expand_6 : decode b_L_expand 6 = .ok (.i2l, 1) := by decide +kernel
theorem d_L_expand_7 : decode b_L_expand 7 = .ok (.lastore, 1) := by decide +kernel
theorem d_L_expand_8 : decode b_L_expand 8 = .ok (.goto 12, 3) := by decide +kernel
theorem d_L_expand_11 : decode b_L_expand 11 = .ok (.astore_n 2, 1) := by decide +kernel
theorem d_L_expand_12 : decode b_L_expand 12 = .ok (.iconst 1, 1) := by decide +kernel
theorem d_L_expand_13 : decode b_L_expand 13 = .ok (.ireturn, 1) := by decide +kernel
theorem d_L_expand_14 : decode b_L_expand 14 = .ok (.astore_n 2, 1) := by decide +kernel
theorem d_L_expand_15 : decode b_L_expand 15 = .ok (.iconst 2, 1) := by decide +kernel
theorem d_L_expand_16 : decode b_L_expand 16 = .ok (.ireturn, 1) := by decide +kernel
theorem d_L_expand_17 : decode b_L_expand 17 = .ok (.astore_n 2, 1) := by decide +kernel
theorem d_L_expand_18 : decode b_L_expand 18 = .ok (.iconst 3, 1) := by decide +kernel
theorem d_L_expand_19 : decode b_L_expand 19 = .ok (.ireturn, 1) := by decide +kernel
theorem d_L_expand_20 : decode b_L_expand 20 = .ok (.iconst 0, 1) := by decide +kernel
theorem d_L_expand_21 : decode b_L_expand 21 = .ok (.ireturn, 1) := by decide +kernel
theorem d_L_prefix_0 : decode b_L_prefix 0 = .ok (.aload_n 3, 1) := by decide +kernel
theorem d_L_prefix_1 : decode b_L_prefix 1 = .ok (.iconst 0, 1) := by decide +kernel
theorem d_L_prefix_2 : decode b_L_prefix 2 = .ok (.aload_n 0, 1) := by decide +kernel
theorem d_L_prefix_3 : decode b_L_prefix 3 = .ok (.iload_n 1, 1) := by decide +kernel
theorem d_L_prefix_4 : decode b_L_prefix 4 = .ok (.iload_n 2, 1) := by decide +kernel
theorem d_L_prefix_5 : decode b_L_prefix 5 = .ok (.invokevirtual 26, 3) := by decide +kernel
theorem d_L_prefix_8 : decode b_L_prefix 8 = .ok (.ifCond .eq 7, 3) := by decide +kernel
theorem d_L_prefix_11 : decode b_L_prefix 11 = .ok (.lconst 1, 1) := by decide +kernel
theorem d_L_prefix_12 : decode b_L_prefix 12 = .ok (.goto 4, 3) := by decide +kernel
theorem d_L_prefix_15 : decode b_L_prefix 15 = .ok (.lconst 0, 1) := by decide +kernel
theorem d_L_prefix_16 : decode b_L_prefix 16 = .ok (.lastore, 1) := by decide +kernel
theorem d_L_prefix_17 : decode b_L_prefix 17 = .ok (.goto 11, 3) := by decide +kernel
theorem d_L_prefix_20 : decode b_L_prefix 20 = .ok (.astore 4, 2) := by decide +kernel
theorem d_L_prefix_22 : decode b_L_prefix 22 = .ok (.iconst 1, 1) := by decide +kernel
theorem d_L_prefix_23 : decode b_L_prefix 23 = .ok (.ireturn, 1) := by decide +kernel
theorem d_L_prefix_24 : decode b_L_prefix 24 = .ok (.astore 4, 2) := by decide +kernel
theorem d_L_prefix_26 : decode b_L_prefix 26 = .ok (.iconst 2, 1) := by decide +kernel
theorem d_L_prefix_27 : decode b_L_prefix 27 = .ok (.ireturn, 1) := by decide +kernel
theorem d_L_prefix_28 : decode b_L_prefix 28 = .ok (.iconst 0, 1) := by decide +kernel
theorem d_L_prefix_29 : decode b_L_prefix 29 = .ok (.ireturn, 1) := by decide +kernel
theorem d_L_space_0 : decode b_L_space 0 = .ok (.aload_n 2, 1) := by decide +kernel
theorem d_L_space_1 : decode b_L_space 1 = .ok (.iconst 0, 1) := by decide +kernel
theorem d_L_space_2 : decode b_L_space 2 = .ok (.aload_n 0, 1) := by decide +kernel
theorem d_L_space_3 : decode b_L_space 3 = .ok (.iload_n 1, 1) := by decide +kernel
theorem d_L_space_4 : decode b_L_space 4 = .ok (.invokevirtual 32, 3) := by decide +kernel
theorem d_L_space_7 : decode b_L_space 7 = .ok (.i2l, 1) := by decide +kernel
theorem d_L_space_8 : decode b_L_space 8 = .ok (.lastore, 1) := by decide +kernel
theorem d_L_space_9 : decode b_L_space 9 = .ok (.goto 6, 3) := by decide +kernel
theorem d_L_space_12 : decode b_L_space 12 = .ok (.astore_n 3, 1) := by decide +kernel
theorem d_L_space_13 : decode b_L_space 13 = .ok (.iconst 1, 1) := by decide +kernel
theorem d_L_space_14 : decode b_L_space 14 = .ok (.ireturn, 1) := by decide +kernel
theorem d_L_space_15 : decode b_L_space 15 = .ok (.iconst 0, 1) := by decide +kernel
theorem d_L_space_16 : decode b_L_space 16 = .ok (.ireturn, 1) := by decide +kernel
theorem d_L_best_0 : decode b_L_best 0 = .ok (.aload_n 2, 1) := by decide +kernel
theorem d_L_best_1 : decode b_L_best 1 = .ok (.iconst 0, 1) := by decide +kernel
theorem d_L_best_2 : decode b_L_best 2 = .ok (.aload_n 0, 1) := by decide +kernel
theorem d_L_best_3 : decode b_L_best 3 = .ok (.iload_n 1, 1) := by decide +kernel
theorem d_L_best_4 : decode b_L_best 4 = .ok (.invokevirtual 35, 3) := by decide +kernel
theorem d_L_best_7 : decode b_L_best 7 = .ok (.i2l, 1) := by decide +kernel
theorem d_L_best_8 : decode b_L_best 8 = .ok (.lastore, 1) := by decide +kernel
theorem d_L_best_9 : decode b_L_best 9 = .ok (.goto 6, 3) := by decide +kernel
theorem d_L_best_12 : decode b_L_best 12 = .ok (.astore_n 3, 1) := by decide +kernel
theorem d_L_best_13 : decode b_L_best 13 = .ok (.iconst 1, 1) := by decide +kernel
theorem d_L_best_14 : decode b_L_best 14 = .ok (.ireturn, 1) := by decide +kernel
theorem d_L_best_15 : decode b_L_best 15 = .ok (.iconst 0, 1) := by decide +kernel
theorem d_L_best_16 : decode b_L_best 16 = .ok (.ireturn, 1) := by decide +kernel
theorem d_L_propose_0 : decode b_L_propose 0 = .ok (.aload_n 2, 1) := by decide +kernel
theorem d_L_propose_1 : decode b_L_propose 1 = .ok (.iconst 0, 1) := by decide +kernel
theorem d_L_propose_2 : decode b_L_propose 2 = .ok (.aload_n 0, 1) := by decide +kernel
theorem d_L_propose_3 : decode b_L_propose 3 = .ok (.iload_n 1, 1) := by decide +kernel
theorem d_L_propose_4 : decode b_L_propose 4 = .ok (.invokevirtual 38, 3) := by decide +kernel
theorem d_L_propose_7 : decode b_L_propose 7 = .ok (.i2l, 1) := by decide +kernel
theorem d_L_propose_8 : decode b_L_propose 8 = .ok (.lastore, 1) := by decide +kernel
theorem d_L_propose_9 : decode b_L_propose 9 = .ok (.goto 6, 3) := by decide +kernel
theorem d_L_propose_12 : decode b_L_propose 12 = .ok (.astore_n 3, 1) := by decide +kernel
theorem d_L_propose_13 : decode b_L_propose 13 = .ok (.iconst 1, 1) := by decide +kernel
theorem d_L_propose_14 : decode b_L_propose 14 = .ok (.ireturn, 1) := by decide +kernel
theorem d_L_propose_15 : decode b_L_propose 15 = .ok (.iconst 0, 1) := by decide +kernel
theorem d_L_propose_16 : decode b_L_propose 16 = .ok (.ireturn, 1) := by decide +kernel
theorem d_L_print_0 : decode b_L_print 0 = .ok (.aload_n 2, 1) := by decide +kernel
theorem d_L_print_1 : decode b_L_print 1 = .ok (.iconst 0, 1) := by decide +kernel
theorem d_L_print_2 : decode b_L_print 2 = .ok (.aload_n 0, 1) := by decide +kernel
theorem d_L_print_3 : decode b_L_print 3 = .ok (.iload_n 1, 1) := by decide +kernel
theorem d_L_print_4 : decode b_L_print 4 = .ok (.invokevirtual 41, 3) := by decide +kernel
theorem d_L_print_7 : decode b_L_print 7 = .ok (.i2l, 1) := by decide +kernel
theorem d_L_print_8 : decode b_L_print 8 = .ok (.lastore, 1) := by decide +kernel
theorem d_L_print_9 : decode b_L_print 9 = .ok (.goto 6, 3) := by decide +kernel
theorem d_L_print_12 : decode b_L_print 12 = .ok (.astore_n 3, 1) := by decide +kernel
theorem d_L_print_13 : decode b_L_print 13 = .ok (.iconst 1, 1) := by decide +kernel
theorem d_L_print_14 : decode b_L_print 14 = .ok (.ireturn, 1) := by decide +kernel
theorem d_L_print_15 : decode b_L_print 15 = .ok (.iconst 0, 1) := by decide +kernel
theorem d_L_print_16 : decode b_L_print 16 = .ok (.ireturn, 1) := by decide +kernel
theorem d_L_row_0 : decode b_L_row 0 = .ok (.aload 4, 2) := by decide +kernel
theorem d_L_row_2 : decode b_L_row 2 = .ok (.iconst 0, 1) := by decide +kernel
theorem d_L_row_3 : decode b_L_row 3 = .ok (.aload_n 0, 1) := by decide +kernel
theorem d_L_row_4 : decode b_L_row 4 = .ok (.iload_n 1, 1) := by decide +kernel
theorem d_L_row_5 : decode b_L_row 5 = .ok (.iload_n 2, 1) := by decide +kernel
theorem d_L_row_6 : decode b_L_row 6 = .ok (.iload_n 3, 1) := by decide +kernel
theorem d_L_row_7 : decode b_L_row 7 = .ok (.invokevirtual 44, 3) := by decide +kernel
theorem d_L_row_10 : decode b_L_row 10 = .ok (.i2l, 1) := by decide +kernel
theorem d_L_row_11 : decode b_L_row 11 = .ok (.lastore, 1) := by decide +kernel
theorem d_L_row_12 : decode b_L_row 12 = .ok (.goto 15, 3) := by decide +kernel
theorem d_L_row_15 : decode b_L_row 15 = .ok (.astore 5, 2) := by decide +kernel
theorem d_L_row_17 : decode b_L_row 17 = .ok (.iconst 1, 1) := by decide +kernel
theorem d_L_row_18 : decode b_L_row 18 = .ok (.ireturn, 1) := by decide +kernel
theorem d_L_row_19 : decode b_L_row 19 = .ok (.astore 5, 2) := by decide +kernel
theorem d_L_row_21 : decode b_L_row 21 = .ok (.iconst 2, 1) := by decide +kernel
theorem d_L_row_22 : decode b_L_row 22 = .ok (.ireturn, 1) := by decide +kernel
theorem d_L_row_23 : decode b_L_row 23 = .ok (.astore 5, 2) := by decide +kernel
theorem d_L_row_25 : decode b_L_row 25 = .ok (.iconst 3, 1) := by decide +kernel
theorem d_L_row_26 : decode b_L_row 26 = .ok (.ireturn, 1) := by decide +kernel
theorem d_L_row_27 : decode b_L_row 27 = .ok (.iconst 0, 1) := by decide +kernel
theorem d_L_row_28 : decode b_L_row 28 = .ok (.ireturn, 1) := by decide +kernel
theorem d_L_told_0 : decode b_L_told 0 = .ok (.aload_n 3, 1) := by decide +kernel
theorem d_L_told_1 : decode b_L_told 1 = .ok (.iconst 0, 1) := by decide +kernel
theorem d_L_told_2 : decode b_L_told 2 = .ok (.aload_n 0, 1) := by decide +kernel
theorem d_L_told_3 : decode b_L_told 3 = .ok (.iload_n 1, 1) := by decide +kernel
theorem d_L_told_4 : decode b_L_told 4 = .ok (.iload_n 2, 1) := by decide +kernel
theorem d_L_told_5 : decode b_L_told 5 = .ok (.invokevirtual 48, 3) := by decide +kernel
theorem d_L_told_8 : decode b_L_told 8 = .ok (.i2l, 1) := by decide +kernel
theorem d_L_told_9 : decode b_L_told 9 = .ok (.lastore, 1) := by decide +kernel
theorem d_L_told_10 : decode b_L_told 10 = .ok (.goto 11, 3) := by decide +kernel
theorem d_L_told_13 : decode b_L_told 13 = .ok (.astore 4, 2) := by decide +kernel
theorem d_L_told_15 : decode b_L_told 15 = .ok (.iconst 1, 1) := by decide +kernel
theorem d_L_told_16 : decode b_L_told 16 = .ok (.ireturn, 1) := by decide +kernel
theorem d_L_told_17 : decode b_L_told 17 = .ok (.astore 4, 2) := by decide +kernel
theorem d_L_told_19 : decode b_L_told 19 = .ok (.iconst 2, 1) := by decide +kernel
theorem d_L_told_20 : decode b_L_told 20 = .ok (.ireturn, 1) := by decide +kernel
theorem d_L_told_21 : decode b_L_told 21 = .ok (.iconst 0, 1) := by decide +kernel
theorem d_L_told_22 : decode b_L_told 22 = .ok (.ireturn, 1) := by decide +kernel
theorem d_L_document_0 : decode b_L_document 0 = .ok (.aload_n 3, 1) := by decide +kernel
theorem d_L_document_1 : decode b_L_document 1 = .ok (.iconst 0, 1) := by decide +kernel
theorem d_L_document_2 : decode b_L_document 2 = .ok (.aload_n 0, 1) := by decide +kernel
theorem d_L_document_3 : decode b_L_document 3 = .ok (.iload_n 1, 1) := by decide +kernel
theorem d_L_document_4 : decode b_L_document 4 = .ok (.iload_n 2, 1) := by decide +kernel
theorem d_L_document_5 : decode b_L_document 5 = .ok (.invokevirtual 52, 3) := by decide +kernel
theorem d_L_document_8 : decode b_L_document 8 = .ok (.i2l, 1) := by decide +kernel
theorem d_L_document_9 : decode b_L_document 9 = .ok (.lastore, 1) := by decide +kernel
theorem d_L_document_10 : decode b_L_document 10 = .ok (.goto 7, 3) := by decide +kernel
theorem d_L_document_13 : decode b_L_document 13 = .ok (.astore 4, 2) := by decide +kernel
theorem d_L_document_15 : decode b_L_document 15 = .ok (.iconst 1, 1) := by decide +kernel
theorem d_L_document_16 : decode b_L_document 16 = .ok (.ireturn, 1) := by decide +kernel
theorem d_L_document_17 : decode b_L_document 17 = .ok (.iconst 0, 1) := by decide +kernel
theorem d_L_document_18 : decode b_L_document 18 = .ok (.ireturn, 1) := by decide +kernel
theorem d_L_use_0 : decode b_L_use 0 = .ok (.aload_n 2, 1) := by decide +kernel
theorem d_L_use_1 : decode b_L_use 1 = .ok (.iconst 0, 1) := by decide +kernel
theorem d_L_use_2 : decode b_L_use 2 = .ok (.aload_n 0, 1) := by decide +kernel
theorem d_L_use_3 : decode b_L_use 3 = .ok (.iload_n 1, 1) := by decide +kernel
theorem d_L_use_4 : decode b_L_use 4 = .ok (.invokevirtual 55, 3) := by decide +kernel
theorem d_L_use_7 : decode b_L_use 7 = .ok (.i2l, 1) := by decide +kernel
theorem d_L_use_8 : decode b_L_use 8 = .ok (.lastore, 1) := by decide +kernel
theorem d_L_use_9 : decode b_L_use 9 = .ok (.goto 6, 3) := by decide +kernel
theorem d_L_use_12 : decode b_L_use 12 = .ok (.astore_n 3, 1) := by decide +kernel
theorem d_L_use_13 : decode b_L_use 13 = .ok (.iconst 1, 1) := by decide +kernel
theorem d_L_use_14 : decode b_L_use 14 = .ok (.ireturn, 1) := by decide +kernel
theorem d_L_use_15 : decode b_L_use 15 = .ok (.iconst 0, 1) := by decide +kernel
theorem d_L_use_16 : decode b_L_use 16 = .ok (.ireturn, 1) := by decide +kernel
theorem d_L_used_0 : decode b_L_used 0 = .ok (.aload_n 2, 1) := by decide +kernel
theorem d_L_used_1 : decode b_L_used 1 = .ok (.iconst 0, 1) := by decide +kernel
theorem d_L_used_2 : decode b_L_used 2 = .ok (.aload_n 0, 1) := by decide +kernel
theorem d_L_used_3 : decode b_L_used 3 = .ok (.iload_n 1, 1) := by decide +kernel
theorem d_L_used_4 : decode b_L_used 4 = .ok (.invokevirtual 58, 3) := by decide +kernel
theorem d_L_used_7 : decode b_L_used 7 = .ok (.i2l, 1) := by decide +kernel
theorem d_L_used_8 : decode b_L_used 8 = .ok (.lastore, 1) := by decide +kernel
theorem d_L_used_9 : decode b_L_used 9 = .ok (.goto 6, 3) := by decide +kernel
theorem d_L_used_12 : decode b_L_used 12 = .ok (.astore_n 3, 1) := by decide +kernel
theorem d_L_used_13 : decode b_L_used 13 = .ok (.iconst 1, 1) := by decide +kernel
theorem d_L_used_14 : decode b_L_used 14 = .ok (.ireturn, 1) := by decide +kernel
theorem d_L_used_15 : decode b_L_used 15 = .ok (.iconst 0, 1) := by decide +kernel
theorem d_L_used_16 : decode b_L_used 16 = .ok (.ireturn, 1) := by decide +kernel
theorem d_L_unknown_0 : decode b_L_unknown 0 = .ok (.aload_n 2, 1) := by decide +kernel
theorem d_L_unknown_1 : decode b_L_unknown 1 = .ok (.iconst 0, 1) := by decide +kernel
theorem d_L_unknown_2 : decode b_L_unknown 2 = .ok (.aload_n 0, 1) := by decide +kernel
theorem d_L_unknown_3 : decode b_L_unknown 3 = .ok (.iload_n 1, 1) := by decide +kernel
theorem d_L_unknown_4 : decode b_L_unknown 4 = .ok (.invokevirtual 61, 3) := by decide +kernel
theorem d_L_unknown_7 : decode b_L_unknown 7 = .ok (.i2l, 1) := by decide +kernel
theorem d_L_unknown_8 : decode b_L_unknown 8 = .ok (.lastore, 1) := by decide +kernel
theorem d_L_unknown_9 : decode b_L_unknown 9 = .ok (.goto 6, 3) := by decide +kernel
theorem d_L_unknown_12 : decode b_L_unknown 12 = .ok (.astore_n 3, 1) := by decide +kernel
theorem d_L_unknown_13 : decode b_L_unknown 13 = .ok (.iconst 1, 1) := by decide +kernel
theorem d_L_unknown_14 : decode b_L_unknown 14 = .ok (.ireturn, 1) := by decide +kernel
theorem d_L_unknown_15 : decode b_L_unknown 15 = .ok (.iconst 0, 1) := by decide +kernel
theorem d_L_unknown_16 : decode b_L_unknown 16 = .ok (.ireturn, 1) := by decide +kernel
theorem d_L_apart_0 : decode b_L_apart 0 = .ok (.aload_n 3, 1) := by decide +kernel
theorem d_L_apart_1 : decode b_L_apart 1 = .ok (.iconst 0, 1) := by decide +kernel
theorem d_L_apart_2 : decode b_L_apart 2 = .ok (.aload_n 0, 1) := by decide +kernel
theorem d_L_apart_3 : decode b_L_apart 3 = .ok (.iload_n 1, 1) := by decide +kernel
theorem d_L_apart_4 : decode b_L_apart 4 = .ok (.iload_n 2, 1) := by decide +kernel
theorem d_L_apart_5 : decode b_L_apart 5 = .ok (.invokevirtual 64, 3) := by decide +kernel
theorem d_L_apart_8 : decode b_L_apart 8 = .ok (.i2l, 1) := by decide +kernel
theorem d_L_apart_9 : decode b_L_apart 9 = .ok (.lastore, 1) := by decide +kernel
theorem d_L_apart_10 : decode b_L_apart 10 = .ok (.goto 7, 3) := by decide +kernel
theorem d_L_apart_13 : decode b_L_apart 13 = .ok (.astore 4, 2) := by decide +kernel
theorem d_L_apart_15 : decode b_L_apart 15 = .ok (.iconst 1, 1) := by decide +kernel
theorem d_L_apart_16 : decode b_L_apart 16 = .ok (.ireturn, 1) := by decide +kernel
theorem d_L_apart_17 : decode b_L_apart 17 = .ok (.iconst 0, 1) := by decide +kernel
theorem d_L_apart_18 : decode b_L_apart 18 = .ok (.ireturn, 1) := by decide +kernel
theorem d_L_near_0 : decode b_L_near 0 = .ok (.aload_n 3, 1) := by decide +kernel
theorem d_L_near_1 : decode b_L_near 1 = .ok (.iconst 0, 1) := by decide +kernel
theorem d_L_near_2 : decode b_L_near 2 = .ok (.aload_n 0, 1) := by decide +kernel
theorem d_L_near_3 : decode b_L_near 3 = .ok (.iload_n 1, 1) := by decide +kernel
theorem d_L_near_4 : decode b_L_near 4 = .ok (.iload_n 2, 1) := by decide +kernel
theorem d_L_near_5 : decode b_L_near 5 = .ok (.invokevirtual 67, 3) := by decide +kernel
theorem d_L_near_8 : decode b_L_near 8 = .ok (.i2l, 1) := by decide +kernel
theorem d_L_near_9 : decode b_L_near 9 = .ok (.lastore, 1) := by decide +kernel
theorem d_L_near_10 : decode b_L_near 10 = .ok (.goto 7, 3) := by decide +kernel
theorem d_L_near_13 : decode b_L_near 13 = .ok (.astore 4, 2) := by decide +kernel
theorem d_L_near_15 : decode b_L_near 15 = .ok (.iconst 1, 1) := by decide +kernel
theorem d_L_near_16 : decode b_L_near 16 = .ok (.ireturn, 1) := by decide +kernel
theorem d_L_near_17 : decode b_L_near 17 = .ok (.iconst 0, 1) := by decide +kernel
theorem d_L_near_18 : decode b_L_near 18 = .ok (.ireturn, 1) := by decide +kernel
theorem d_L_alias_0 : decode b_L_alias 0 = .ok (.aload_n 3, 1) := by decide +kernel
theorem d_L_alias_1 : decode b_L_alias 1 = .ok (.iconst 0, 1) := by decide +kernel
theorem d_L_alias_2 : decode b_L_alias 2 = .ok (.aload_n 0, 1) := by decide +kernel
theorem d_L_alias_3 : decode b_L_alias 3 = .ok (.iload_n 1, 1) := by decide +kernel
theorem d_L_alias_4 : decode b_L_alias 4 = .ok (.iload_n 2, 1) := by decide +kernel
theorem d_L_alias_5 : decode b_L_alias 5 = .ok (.invokevirtual 70, 3) := by decide +kernel
theorem d_L_alias_8 : decode b_L_alias 8 = .ok (.ifCond .eq 7, 3) := by decide +kernel
theorem d_L_alias_11 : decode b_L_alias 11 = .ok (.lconst 1, 1) := by decide +kernel
theorem d_L_alias_12 : decode b_L_alias 12 = .ok (.goto 4, 3) := by decide +kernel
theorem d_L_alias_15 : decode b_L_alias 15 = .ok (.lconst 0, 1) := by decide +kernel
theorem d_L_alias_16 : decode b_L_alias 16 = .ok (.lastore, 1) := by decide +kernel
theorem d_L_alias_17 : decode b_L_alias 17 = .ok (.goto 7, 3) := by decide +kernel
theorem d_L_alias_20 : decode b_L_alias 20 = .ok (.astore 4, 2) := by decide +kernel
theorem d_L_alias_22 : decode b_L_alias 22 = .ok (.iconst 1, 1) := by decide +kernel
theorem d_L_alias_23 : decode b_L_alias 23 = .ok (.ireturn, 1) := by decide +kernel
theorem d_L_alias_24 : decode b_L_alias 24 = .ok (.iconst 0, 1) := by decide +kernel
theorem d_L_alias_25 : decode b_L_alias 25 = .ok (.ireturn, 1) := by decide +kernel
theorem d_L_meaning_0 : decode b_L_meaning 0 = .ok (.aload_n 2, 1) := by decide +kernel
theorem d_L_meaning_1 : decode b_L_meaning 1 = .ok (.iconst 0, 1) := by decide +kernel
theorem d_L_meaning_2 : decode b_L_meaning 2 = .ok (.aload_n 0, 1) := by decide +kernel
theorem d_L_meaning_3 : decode b_L_meaning 3 = .ok (.iload_n 1, 1) := by decide +kernel
theorem d_L_meaning_4 : decode b_L_meaning 4 = .ok (.invokevirtual 73, 3) := by decide +kernel
theorem d_L_meaning_7 : decode b_L_meaning 7 = .ok (.i2l, 1) := by decide +kernel
theorem d_L_meaning_8 : decode b_L_meaning 8 = .ok (.lastore, 1) := by decide +kernel
theorem d_L_meaning_9 : decode b_L_meaning 9 = .ok (.goto 6, 3) := by decide +kernel
theorem d_L_meaning_12 : decode b_L_meaning 12 = .ok (.astore_n 3, 1) := by decide +kernel
theorem d_L_meaning_13 : decode b_L_meaning 13 = .ok (.iconst 1, 1) := by decide +kernel
theorem d_L_meaning_14 : decode b_L_meaning 14 = .ok (.ireturn, 1) := by decide +kernel
theorem d_L_meaning_15 : decode b_L_meaning 15 = .ok (.iconst 0, 1) := by decide +kernel
theorem d_L_meaning_16 : decode b_L_meaning 16 = .ok (.ireturn, 1) := by decide +kernel
theorem d_L_join_0 : decode b_L_join 0 = .ok (.aload 4, 2) := by decide +kernel
theorem d_L_join_2 : decode b_L_join 2 = .ok (.iconst 0, 1) := by decide +kernel
theorem d_L_join_3 : decode b_L_join 3 = .ok (.aload_n 0, 1) := by decide +kernel
theorem d_L_join_4 : decode b_L_join 4 = .ok (.iload_n 1, 1) := by decide +kernel
theorem d_L_join_5 : decode b_L_join 5 = .ok (.iload_n 2, 1) := by decide +kernel
theorem d_L_join_6 : decode b_L_join 6 = .ok (.iload_n 3, 1) := by decide +kernel
theorem d_L_join_7 : decode b_L_join 7 = .ok (.invokevirtual 76, 3) := by decide +kernel
theorem d_L_join_10 : decode b_L_join 10 = .ok (.i2l, 1) := by decide +kernel
theorem d_L_join_11 : decode b_L_join 11 = .ok (.lastore, 1) := by decide +kernel
theorem d_L_join_12 : decode b_L_join 12 = .ok (.goto 15, 3) := by decide +kernel
theorem d_L_join_15 : decode b_L_join 15 = .ok (.astore 5, 2) := by decide +kernel
theorem d_L_join_17 : decode b_L_join 17 = .ok (.iconst 1, 1) := by decide +kernel
theorem d_L_join_18 : decode b_L_join 18 = .ok (.ireturn, 1) := by decide +kernel
theorem d_L_join_19 : decode b_L_join 19 = .ok (.astore 5, 2) := by decide +kernel
theorem d_L_join_21 : decode b_L_join 21 = .ok (.iconst 2, 1) := by decide +kernel
theorem d_L_join_22 : decode b_L_join 22 = .ok (.ireturn, 1) := by decide +kernel
theorem d_L_join_23 : decode b_L_join 23 = .ok (.astore 5, 2) := by decide +kernel
theorem d_L_join_25 : decode b_L_join 25 = .ok (.iconst 3, 1) := by decide +kernel
theorem d_L_join_26 : decode b_L_join 26 = .ok (.ireturn, 1) := by decide +kernel
theorem d_L_join_27 : decode b_L_join 27 = .ok (.iconst 0, 1) := by decide +kernel
theorem d_L_join_28 : decode b_L_join 28 = .ok (.ireturn, 1) := by decide +kernel
theorem d_L_rename_0 : decode b_L_rename 0 = .ok (.aload_n 3, 1) := by decide +kernel
theorem d_L_rename_1 : decode b_L_rename 1 = .ok (.iconst 0, 1) := by decide +kernel
theorem d_L_rename_2 : decode b_L_rename 2 = .ok (.aload_n 0, 1) := by decide +kernel
theorem d_L_rename_3 : decode b_L_rename 3 = .ok (.iload_n 1, 1) := by decide +kernel
theorem d_L_rename_4 : decode b_L_rename 4 = .ok (.iload_n 2, 1) := by decide +kernel
theorem d_L_rename_5 : decode b_L_rename 5 = .ok (.invokevirtual 79, 3) := by decide +kernel
theorem d_L_rename_8 : decode b_L_rename 8 = .ok (.i2l, 1) := by decide +kernel
theorem d_L_rename_9 : decode b_L_rename 9 = .ok (.lastore, 1) := by decide +kernel
theorem d_L_rename_10 : decode b_L_rename 10 = .ok (.goto 15, 3) := by decide +kernel
theorem d_L_rename_13 : decode b_L_rename 13 = .ok (.astore 4, 2) := by decide +kernel
theorem d_L_rename_15 : decode b_L_rename 15 = .ok (.iconst 1, 1) := by decide +kernel
theorem d_L_rename_16 : decode b_L_rename 16 = .ok (.ireturn, 1) := by decide +kernel
theorem d_L_rename_17 : decode b_L_rename 17 = .ok (.astore 4, 2) := by decide +kernel
theorem d_L_rename_19 : decode b_L_rename 19 = .ok (.iconst 2, 1) := by decide +kernel
theorem d_L_rename_20 : decode b_L_rename 20 = .ok (.ireturn, 1) := by decide +kernel
theorem d_L_rename_21 : decode b_L_rename 21 = .ok (.astore 4, 2) := by decide +kernel
theorem d_L_rename_23 : decode b_L_rename 23 = .ok (.iconst 3, 1) := by decide +kernel
theorem d_L_rename_24 : decode b_L_rename 24 = .ok (.ireturn, 1) := by decide +kernel
theorem d_L_rename_25 : decode b_L_rename 25 = .ok (.iconst 0, 1) := by decide +kernel
theorem d_L_rename_26 : decode b_L_rename 26 = .ok (.ireturn, 1) := by decide +kernel
theorem d_L_now_0 : decode b_L_now 0 = .ok (.aload_n 2, 1) := by decide +kernel
theorem d_L_now_1 : decode b_L_now 1 = .ok (.iconst 0, 1) := by decide +kernel
theorem d_L_now_2 : decode b_L_now 2 = .ok (.aload_n 0, 1) := by decide +kernel
theorem d_L_now_3 : decode b_L_now 3 = .ok (.iload_n 1, 1) := by decide +kernel
theorem d_L_now_4 : decode b_L_now 4 = .ok (.invokevirtual 82, 3) := by decide +kernel
theorem d_L_now_7 : decode b_L_now 7 = .ok (.i2l, 1) := by decide +kernel
theorem d_L_now_8 : decode b_L_now 8 = .ok (.lastore, 1) := by decide +kernel
theorem d_L_now_9 : decode b_L_now 9 = .ok (.goto 6, 3) := by decide +kernel
theorem d_L_now_12 : decode b_L_now 12 = .ok (.astore_n 3, 1) := by decide +kernel
theorem d_L_now_13 : decode b_L_now 13 = .ok (.iconst 1, 1) := by decide +kernel
theorem d_L_now_14 : decode b_L_now 14 = .ok (.ireturn, 1) := by decide +kernel
theorem d_L_now_15 : decode b_L_now 15 = .ok (.iconst 0, 1) := by decide +kernel
theorem d_L_now_16 : decode b_L_now 16 = .ok (.ireturn, 1) := by decide +kernel
theorem d_L_was_0 : decode b_L_was 0 = .ok (.aload_n 2, 1) := by decide +kernel
theorem d_L_was_1 : decode b_L_was 1 = .ok (.iconst 0, 1) := by decide +kernel
theorem d_L_was_2 : decode b_L_was 2 = .ok (.aload_n 0, 1) := by decide +kernel
theorem d_L_was_3 : decode b_L_was 3 = .ok (.iload_n 1, 1) := by decide +kernel
theorem d_L_was_4 : decode b_L_was 4 = .ok (.invokevirtual 85, 3) := by decide +kernel
theorem d_L_was_7 : decode b_L_was 7 = .ok (.i2l, 1) := by decide +kernel
theorem d_L_was_8 : decode b_L_was 8 = .ok (.lastore, 1) := by decide +kernel
theorem d_L_was_9 : decode b_L_was 9 = .ok (.goto 6, 3) := by decide +kernel
theorem d_L_was_12 : decode b_L_was 12 = .ok (.astore_n 3, 1) := by decide +kernel
theorem d_L_was_13 : decode b_L_was 13 = .ok (.iconst 1, 1) := by decide +kernel
theorem d_L_was_14 : decode b_L_was 14 = .ok (.ireturn, 1) := by decide +kernel
theorem d_L_was_15 : decode b_L_was 15 = .ok (.iconst 0, 1) := by decide +kernel
theorem d_L_was_16 : decode b_L_was 16 = .ok (.ireturn, 1) := by decide +kernel
theorem d_L_clash_0 : decode b_L_clash 0 = .ok (.aload_n 2, 1) := by decide +kernel
theorem d_L_clash_1 : decode b_L_clash 1 = .ok (.iconst 0, 1) := by decide +kernel
theorem d_L_clash_2 : decode b_L_clash 2 = .ok (.aload_n 0, 1) := by decide +kernel
theorem d_L_clash_3 : decode b_L_clash 3 = .ok (.iload_n 1, 1) := by decide +kernel
theorem d_L_clash_4 : decode b_L_clash 4 = .ok (.invokevirtual 88, 3) := by decide +kernel
theorem d_L_clash_7 : decode b_L_clash 7 = .ok (.i2l, 1) := by decide +kernel
theorem d_L_clash_8 : decode b_L_clash 8 = .ok (.lastore, 1) := by decide +kernel
theorem d_L_clash_9 : decode b_L_clash 9 = .ok (.goto 6, 3) := by decide +kernel
theorem d_L_clash_12 : decode b_L_clash 12 = .ok (.astore_n 3, 1) := by decide +kernel
theorem d_L_clash_13 : decode b_L_clash 13 = .ok (.iconst 1, 1) := by decide +kernel
theorem d_L_clash_14 : decode b_L_clash 14 = .ok (.ireturn, 1) := by decide +kernel
theorem d_L_clash_15 : decode b_L_clash 15 = .ok (.iconst 0, 1) := by decide +kernel
theorem d_L_clash_16 : decode b_L_clash 16 = .ok (.ireturn, 1) := by decide +kernel
theorem d_L_count_0 : decode b_L_count 0 = .ok (.aload_n 2, 1) := by decide +kernel
theorem d_L_count_1 : decode b_L_count 1 = .ok (.iconst 0, 1) := by decide +kernel
theorem d_L_count_2 : decode b_L_count 2 = .ok (.aload_n 0, 1) := by decide +kernel
theorem d_L_count_3 : decode b_L_count 3 = .ok (.iload_n 1, 1) := by decide +kernel
theorem d_L_count_4 : decode b_L_count 4 = .ok (.invokevirtual 91, 3) := by decide +kernel
theorem d_L_count_7 : decode b_L_count 7 = .ok (.i2l, 1) := by decide +kernel
theorem d_L_count_8 : decode b_L_count 8 = .ok (.lastore, 1) := by decide +kernel
theorem d_L_count_9 : decode b_L_count 9 = .ok (.goto 6, 3) := by decide +kernel
theorem d_L_count_12 : decode b_L_count 12 = .ok (.astore_n 3, 1) := by decide +kernel
theorem d_L_count_13 : decode b_L_count 13 = .ok (.iconst 1, 1) := by decide +kernel
theorem d_L_count_14 : decode b_L_count 14 = .ok (.ireturn, 1) := by decide +kernel
theorem d_L_count_15 : decode b_L_count 15 = .ok (.iconst 0, 1) := by decide +kernel
theorem d_L_count_16 : decode b_L_count 16 = .ok (.ireturn, 1) := by decide +kernel
theorem d_L_law_0 : decode b_L_law 0 = .ok (.new 8, 3) := by decide +kernel
theorem d_L_law_3 : decode b_L_law 3 = .ok (.dup, 1) := by decide +kernel
theorem d_L_law_4 : decode b_L_law 4 = .ok (.invokespecial 94, 3) := by decide +kernel
theorem d_L_law_7 : decode b_L_law 7 = .ok (.astore_n 1, 1) := by decide +kernel
theorem d_L_law_8 : decode b_L_law 8 = .ok (.new 95, 3) := by decide +kernel
theorem d_L_law_11 : decode b_L_law 11 = .ok (.dup, 1) := by decide +kernel
theorem d_L_law_12 : decode b_L_law 12 = .ok (.invokespecial 97, 3) := by decide +kernel
theorem d_L_law_15 : decode b_L_law 15 = .ok (.astore_n 2, 1) := by decide +kernel
theorem d_L_law_16 : decode b_L_law 16 = .ok (.iconst 1, 1) := by decide +kernel
theorem d_L_law_17 : decode b_L_law 17 = .ok (.newarray .long, 2) := by decide +kernel
theorem d_L_law_19 : decode b_L_law 19 = .ok (.astore_n 3, 1) := by decide +kernel
theorem d_L_law_20 : decode b_L_law 20 = .ok (.iconst 0, 1) := by decide +kernel
theorem d_L_law_21 : decode b_L_law 21 = .ok (.istore 4, 2) := by decide +kernel
theorem d_L_law_23 : decode b_L_law 23 = .ok (.iload 4, 2) := by decide +kernel
theorem d_L_law_25 : decode b_L_law 25 = .ok (.aload_n 0, 1) := by decide +kernel
theorem d_L_law_26 : decode b_L_law 26 = .ok (.arraylength, 1) := by decide +kernel
theorem d_L_law_27 : decode b_L_law 27 = .ok (.iconst 4, 1) := by decide +kernel
theorem d_L_law_28 : decode b_L_law 28 = .ok (.isub, 1) := by decide +kernel
theorem d_L_law_29 : decode b_L_law 29 = .ok (.if_icmp .gt 1637, 3) := by decide +kernel
theorem d_L_law_32 : decode b_L_law 32 = .ok (.aload_n 0, 1) := by decide +kernel
theorem d_L_law_33 : decode b_L_law 33 = .ok (.iload 4, 2) := by decide +kernel
theorem d_L_law_35 : decode b_L_law 35 = .ok (.iaload, 1) := by decide +kernel
theorem d_L_law_36 : decode b_L_law 36 = .ok (.bipush 31, 2) := by decide +kernel
theorem d_L_law_38 : decode b_L_law 38 = .ok (.iand, 1) := by decide +kernel
theorem d_L_law_39 : decode b_L_law 39 = .ok (.tableswitch 1621 0 25 #[117, 173, 186, 230, 274, 349, 405, 461, 517, 573, 598, 678, 746, 814, 870, 926, 982, 1050, 1118, 1193, 1249, 1329, 1397, 1453, 1509, 1565], 117) := by decide +kernel
theorem d_L_law_156 : decode b_L_law 156 = .ok (.aload_n 1, 1) := by decide +kernel
theorem d_L_law_157 : decode b_L_law 157 = .ok (.aload_n 0, 1) := by decide +kernel
theorem d_L_law_158 : decode b_L_law 158 = .ok (.iload 4, 2) := by decide +kernel
theorem d_L_law_160 : decode b_L_law 160 = .ok (.iconst 1, 1) := by decide +kernel
theorem d_L_law_161 : decode b_L_law 161 = .ok (.iadd, 1) := by decide +kernel
theorem d_L_law_162 : decode b_L_law 162 = .ok (.iaload, 1) := by decide +kernel
theorem d_L_law_163 : decode b_L_law 163 = .ok (.aload_n 3, 1) := by decide +kernel
theorem d_L_law_164 : decode b_L_law 164 = .ok (.invokestatic 98, 3) := by decide +kernel
theorem d_L_law_167 : decode b_L_law 167 = .ok (.istore 5, 2) := by decide +kernel
theorem d_L_law_169 : decode b_L_law 169 = .ok (.aload_n 2, 1) := by decide +kernel
theorem d_L_law_170 : decode b_L_law 170 = .ok (.aload_n 0, 1) := by decide +kernel
theorem d_L_law_171 : decode b_L_law 171 = .ok (.iload 4, 2) := by decide +kernel
theorem d_L_law_173 : decode b_L_law 173 = .ok (.iconst 1, 1) := by decide +kernel
theorem d_L_law_174 : decode b_L_law 174 = .ok (.iadd, 1) := by decide +kernel
theorem d_L_law_175 : decode b_L_law 175 = .ok (.iaload, 1) := by decide +kernel
theorem d_L_law_176 : decode b_L_law 176 = .ok (.invokevirtual 103, 3) := by decide +kernel
theorem d_L_law_179 : decode b_L_law 179 = .ok (.istore 6, 2) := by decide +kernel
theorem d_L_law_181 : decode b_L_law 181 = .ok (.aload_n 2, 1) := by decide +kernel
theorem d_L_law_182 : decode b_L_law 182 = .ok (.invokevirtual 104, 3) := by decide +kernel
theorem d_L_law_185 : decode b_L_law 185 = .ok (.iload 5, 2) := by decide +kernel
theorem d_L_law_187 : decode b_L_law 187 = .ok (.if_icmp .eq 5, 3) := by decide +kernel
theorem d_L_law_190 : decode b_L_law 190 = .ok (.iconst 0, 1) := by decide +kernel
theorem d_L_law_191 : decode b_L_law 191 = .ok (.ireturn, 1) := by decide +kernel
theorem d_L_law_192 : decode b_L_law 192 = .ok (.iload 5, 2) := by decide +kernel
theorem d_L_law_194 : decode b_L_law 194 = .ok (.ifCond .ne 15, 3) := by decide +kernel
theorem d_L_law_197 : decode b_L_law 197 = .ok (.aload_n 3, 1) := by decide +kernel
theorem d_L_law_198 : decode b_L_law 198 = .ok (.iconst 0, 1) := by decide +kernel
theorem d_L_law_199 : decode b_L_law 199 = .ok (.laload, 1) := by decide +kernel
theorem d_L_law_200 : decode b_L_law 200 = .ok (.iload 6, 2) := by decide +kernel
theorem d_L_law_202 : decode b_L_law 202 = .ok (.i2l, 1) := by decide +kernel
theorem d_L_law_203 : decode b_L_law 203 = .ok (.lcmp, 1) := by decide +kernel
theorem d_L_law_204 : decode b_L_law 204 = .ok (.ifCond .eq 5, 3) := by decide +kernel
theorem d_L_law_207 : decode b_L_law 207 = .ok (.iconst 0, 1) := by decide +kernel
theorem d_L_law_208 : decode b_L_law 208 = .ok (.ireturn, 1) := by decide +kernel
theorem d_L_law_209 : decode b_L_law 209 = .ok (.goto 1451, 3) := by decide +kernel
theorem d_L_law_212 : decode b_L_law 212 = .ok (.aload_n 1, 1) := by decide +kernel
theorem d_L_law_213 : decode b_L_law 213 = .ok (.invokevirtual 107, 3) := by decide +kernel
theorem d_L_law_216 : decode b_L_law 216 = .ok (.aload_n 2, 1) := by decide +kernel
theorem d_L_law_217 : decode b_L_law 217 = .ok (.invokevirtual 110, 3) := by decide +kernel
theorem d_L_law_220 : decode b_L_law 220 = .ok (.if_icmp .eq 1440, 3) := by decide +kernel
theorem d_L_law_223 : decode b_L_law 223 = .ok (.iconst 0, 1) := by decide +kernel
theorem d_L_law_224 : decode b_L_law 224 = .ok (.ireturn, 1) := by decide +kernel
theorem d_L_law_225 : decode b_L_law 225 = .ok (.aload_n 1, 1) := by decide +kernel
theorem d_L_law_226 : decode b_L_law 226 = .ok (.aload_n 3, 1) := by decide +kernel
theorem d_L_law_227 : decode b_L_law 227 = .ok (.invokestatic 111, 3) := by decide +kernel
theorem d_L_law_230 : decode b_L_law 230 = .ok (.istore 5, 2) := by decide +kernel
theorem d_L_law_232 : decode b_L_law 232 = .ok (.aload_n 2, 1) := by decide +kernel
theorem d_L_law_233 : decode b_L_law 233 = .ok (.invokevirtual 114, 3) := by decide +kernel
theorem d_L_law_236 : decode b_L_law 236 = .ok (.istore 6, 2) := by decide +kernel
theorem d_L_law_238 : decode b_L_law 238 = .ok (.aload_n 2, 1) := by decide +kernel
theorem d_L_law_239 : decode b_L_law 239 = .ok (.invokevirtual 104, 3) := by decide +kernel
theorem d_L_law_242 : decode b_L_law 242 = .ok (.iload 5, 2) := by decide +kernel
theorem d_L_law_244 : decode b_L_law 244 = .ok (.if_icmp .eq 5, 3) := by decide +kernel
theorem d_L_law_247 : decode b_L_law 247 = .ok (.iconst 0, 1) := by decide +kernel
theorem d_L_law_248 : decode b_L_law 248 = .ok (.ireturn, 1) := by decide +kernel
theorem d_L_law_249 : decode b_L_law 249 = .ok (.iload 5, 2) := by decide +kernel
theorem d_L_law_251 : decode b_L_law 251 = .ok (.ifCond .ne 15, 3) := by decide +kernel
theorem d_L_law_254 : decode b_L_law 254 = .ok (.aload_n 3, 1) := by decide +kernel
theorem d_L_law_255 : decode b_L_law 255 = .ok (.iconst 0, 1) := by decide +kernel
theorem d_L_law_256 : decode b_L_law 256 = .ok (.laload, 1) := by decide +kernel
theorem d_L_law_257 : decode b_L_law 257 = .ok (.iload 6, 2) := by decide +kernel
theorem d_L_law_259 : decode b_L_law 259 = .ok (.i2l, 1) := by decide +kernel
theorem d_L_law_260 : decode b_L_law 260 = .ok (.lcmp, 1) := by decide +kernel
theorem d_L_law_261 : decode b_L_law 261 = .ok (.ifCond .eq 5, 3) := by decide +kernel
theorem d_L_law_264 : decode b_L_law 264 = .ok (.iconst 0, 1) := by decide +kernel
theorem d_L_law_265 : decode b_L_law 265 = .ok (.ireturn, 1) := by decide +kernel
theorem d_L_law_266 : decode b_L_law 266 = .ok (.goto 1394, 3) := by decide +kernel
theorem d_L_law_269 : decode b_L_law 269 = .ok (.aload_n 1, 1) := by decide +kernel
theorem d_L_law_270 : decode b_L_law 270 = .ok (.aload_n 3, 1) := by decide +kernel
theorem d_L_law_271 : decode b_L_law 271 = .ok (.invokestatic 115, 3) := by decide +kernel
theorem d_L_law_274 : decode b_L_law 274 = .ok (.istore 5, 2) := by decide +kernel
theorem d_L_law_276 : decode b_L_law 276 = .ok (.aload_n 2, 1) := by decide +kernel
theorem d_L_law_277 : decode b_L_law 277 = .ok (.invokevirtual 117, 3) := by decide +kernel
theorem d_L_law_280 : decode b_L_law 280 = .ok (.istore 6, 2) := by decide +kernel
theorem d_L_law_282 : decode b_L_law 282 = .ok (.aload_n 2, 1) := by decide +kernel
theorem d_L_law_283 : decode b_L_law 283 = .ok (.invokevirtual 104, 3) := by decide +kernel
theorem d_L_law_286 : decode b_L_law 286 = .ok (.iload 5, 2) := by decide +kernel
theorem d_L_law_288 : decode b_L_law 288 = .ok (.if_icmp .eq 5, 3) := by decide +kernel
theorem d_L_law_291 : decode b_L_law 291 = .ok (.iconst 0, 1) := by decide +kernel
theorem d_L_law_292 : decode b_L_law 292 = .ok (.ireturn, 1) := by decide +kernel
theorem d_L_law_293 : decode b_L_law 293 = .ok (.iload 5, 2) := by decide +kernel
theorem d_L_law_295 : decode b_L_law 295 = .ok (.ifCond .ne 15, 3) := by decide +kernel
theorem d_L_law_298 : decode b_L_law 298 = .ok (.aload_n 3, 1) := by decide +kernel
theorem d_L_law_299 : decode b_L_law 299 = .ok (.iconst 0, 1) := by decide +kernel
theorem d_L_law_300 : decode b_L_law 300 = .ok (.laload, 1) := by decide +kernel
theorem d_L_law_301 : decode b_L_law 301 = .ok (.iload 6, 2) := by decide +kernel
theorem d_L_law_303 : decode b_L_law 303 = .ok (.i2l, 1) := by decide +kernel
theorem d_L_law_304 : decode b_L_law 304 = .ok (.lcmp, 1) := by decide +kernel
theorem d_L_law_305 : decode b_L_law 305 = .ok (.ifCond .eq 5, 3) := by decide +kernel
theorem d_L_law_308 : decode b_L_law 308 = .ok (.iconst 0, 1) := by decide +kernel
theorem d_L_law_309 : decode b_L_law 309 = .ok (.ireturn, 1) := by decide +kernel
theorem d_L_law_310 : decode b_L_law 310 = .ok (.goto 1350, 3) := by decide +kernel
theorem d_L_law_313 : decode b_L_law 313 = .ok (.aload_n 1, 1) := by decide +kernel
theorem d_L_law_314 : decode b_L_law 314 = .ok (.aload_n 0, 1) := by decide +kernel
theorem d_L_law_315 : decode b_L_law 315 = .ok (.iload 4, 2) := by decide +kernel
theorem d_L_law_317 : decode b_L_law 317 = .ok (.iconst 1, 1) := by decide +kernel
theorem d_L_law_318 : decode b_L_law 318 = .ok (.iadd, 1) := by decide +kernel
theorem d_L_law_319 : decode b_L_law 319 = .ok (.iaload, 1) := by decide +kernel
theorem d_L_law_320 : decode b_L_law 320 = .ok (.aload_n 0, 1) := by decide +kernel
theorem d_L_law_321 : decode b_L_law 321 = .ok (.iload 4, 2) := by decide +kernel
theorem d_L_law_323 : decode b_L_law 323 = .ok (.iconst 2, 1) := by decide +kernel
theorem d_L_law_324 : decode b_L_law 324 = .ok (.iadd, 1) := by decide +kernel
theorem d_L_law_325 : decode b_L_law 325 = .ok (.iaload, 1) := by decide +kernel
theorem d_L_law_326 : decode b_L_law 326 = .ok (.aload_n 3, 1) := by decide +kernel
theorem d_L_law_327 : decode b_L_law 327 = .ok (.invokestatic 118, 3) := by decide +kernel
theorem d_L_law_330 : decode b_L_law 330 = .ok (.istore 5, 2) := by decide +kernel
theorem d_L_law_332 : decode b_L_law 332 = .ok (.aload_n 2, 1) := by decide +kernel
theorem d_L_law_333 : decode b_L_law 333 = .ok (.aload_n 0, 1) := by decide +kernel
theorem d_L_law_334 : decode b_L_law 334 = .ok (.iload 4, 2) := by decide +kernel
theorem d_L_law_336 : decode b_L_law 336 = .ok (.iconst 1, 1) := by decide +kernel
theorem d_L_law_337 : decode b_L_law 337 = .ok (.iadd, 1) := by decide +kernel
theorem d_L_law_338 : decode b_L_law 338 = .ok (.iaload, 1) := by decide +kernel
theorem d_L_law_339 : decode b_L_law 339 = .ok (.aload_n 0, 1) := by decide +kernel
theorem d_L_law_340 : decode b_L_law 340 = .ok (.iload 4, 2) := by decide +kernel
theorem d_L_law_342 : decode b_L_law 342 = .ok (.iconst 2, 1) := by decide +kernel
theorem d_L_law_343 : decode b_L_law 343 = .ok (.iadd, 1) := by decide +kernel
theorem d_L_law_344 : decode b_L_law 344 = .ok (.iaload, 1) := by decide +kernel
theorem d_L_law_345 : decode b_L_law 345 = .ok (.invokevirtual 121, 3) := by decide +kernel
theorem d_L_law_348 : decode b_L_law 348 = .ok (.istore 6, 2) := by decide +kernel
theorem d_L_law_350 : decode b_L_law 350 = .ok (.aload_n 2, 1) := by decide +kernel
theorem d_L_law_351 : decode b_L_law 351 = .ok (.invokevirtual 104, 3) := by decide +kernel
theorem d_L_law_354 : decode b_L_law 354 = .ok (.iload 5, 2) := by decide +kernel
theorem d_L_law_356 : decode b_L_law 356 = .ok (.if_icmp .eq 5, 3) := by decide +kernel
theorem d_L_law_359 : decode b_L_law 359 = .ok (.iconst 0, 1) := by decide +kernel
theorem d_L_law_360 : decode b_L_law 360 = .ok (.ireturn, 1) := by decide +kernel
theorem d_L_law_361 : decode b_L_law 361 = .ok (.iload 5, 2) := by decide +kernel
theorem d_L_law_363 : decode b_L_law 363 = .ok (.ifCond .ne 22, 3) := by decide +kernel
theorem d_L_law_366 : decode b_L_law 366 = .ok (.aload_n 3, 1) := by decide +kernel
theorem d_L_law_367 : decode b_L_law 367 = .ok (.iconst 0, 1) := by decide +kernel
theorem d_L_law_368 : decode b_L_law 368 = .ok (.laload, 1) := by decide +kernel
theorem d_L_law_369 : decode b_L_law 369 = .ok (.iload 6, 2) := by decide +kernel
theorem d_L_law_371 : decode b_L_law 371 = .ok (.ifCond .eq 7, 3) := by decide +kernel
theorem d_L_law_374 : decode b_L_law 374 = .ok (.lconst 1, 1) := by decide +kernel
theorem d_L_law_375 : decode b_L_law 375 = .ok (.goto 4, 3) := by decide +kernel
theorem d_L_law_378 : decode b_L_law 378 = .ok (.lconst 0, 1) := by decide +kernel
theorem d_L_law_379 : decode b_L_law 379 = .ok (.lcmp, 1) := by decide +kernel
theorem d_L_law_380 : decode b_L_law 380 = .ok (.ifCond .eq 5, 3) := by decide +kernel
theorem d_L_law_383 : decode b_L_law 383 = .ok (.iconst 0, 1) := by decide +kernel
theorem d_L_law_384 : decode b_L_law 384 = .ok (.ireturn, 1) := by decide +kernel
theorem d_L_law_385 : decode b_L_law 385 = .ok (.goto 1275, 3) := by decide +kernel
theorem d_L_law_388 : decode b_L_law 388 = .ok (.aload_n 1, 1) := by decide +kernel
theorem d_L_law_389 : decode b_L_law 389 = .ok (.aload_n 0, 1) := by decide +kernel
theorem d_L_law_390 : decode b_L_law 390 = .ok (.iload 4, 2) := by decide +kernel
theorem d_L_law_392 : decode b_L_law 392 = .ok (.iconst 1, 1) := by decide +kernel
theorem d_L_law_393 : decode b_L_law 393 = .ok (.iadd, 1) := by decide +kernel
theorem d_L_law_394 : decode b_L_law 394 = .ok (.iaload, 1) := by decide +kernel
theorem d_L_law_395 : decode b_L_law 395 = .ok (.aload_n 3, 1) := by decide +kernel
theorem d_L_law_396 : decode b_L_law 396 = .ok (.invokestatic 122, 3) := by decide +kernel
theorem d_L_law_399 : decode b_L_law 399 = .ok (.istore 5, 2) := by decide +kernel
theorem d_L_law_401 : decode b_L_law 401 = .ok (.aload_n 2, 1) := by decide +kernel
theorem d_L_law_402 : decode b_L_law 402 = .ok (.aload_n 0, 1) := by decide +kernel
theorem d_L_law_403 : decode b_L_law 403 = .ok (.iload 4, 2) := by decide +kernel
theorem d_L_law_405 : decode b_L_law 405 = .ok (.iconst 1, 1) := by decide +kernel
theorem d_L_law_406 : decode b_L_law 406 = .ok (.iadd, 1) := by decide +kernel
theorem d_L_law_407 : decode b_L_law 407 = .ok (.iaload, 1) := by decide +kernel
theorem d_L_law_408 : decode b_L_law 408 = .ok (.invokevirtual 124, 3) := by decide +kernel
theorem d_L_law_411 : decode b_L_law 411 = .ok (.istore 6, 2) := by decide +kernel
theorem d_L_law_413 : decode b_L_law 413 = .ok (.aload_n 2, 1) := by decide +kernel
theorem d_L_law_414 : decode b_L_law 414 = .ok (.invokevirtual 104, 3) := by decide +kernel
theorem d_L_law_417 : decode b_L_law 417 = .ok (.iload 5, 2) := by decide +kernel
theorem d_L_law_419 : decode b_L_law 419 = .ok (.if_icmp .eq 5, 3) := by decide +kernel
theorem d_L_law_422 : decode b_L_law 422 = .ok (.iconst 0, 1) := by decide +kernel
theorem d_L_law_423 : decode b_L_law 423 = .ok (.ireturn, 1) := by decide +kernel
theorem d_L_law_424 : decode b_L_law 424 = .ok (.iload 5, 2) := by decide +kernel
theorem d_L_law_426 : decode b_L_law 426 = .ok (.ifCond .ne 15, 3) := by decide +kernel
theorem d_L_law_429 : decode b_L_law 429 = .ok (.aload_n 3, 1) := by decide +kernel
theorem d_L_law_430 : decode b_L_law 430 = .ok (.iconst 0, 1) := by decide +kernel
theorem d_L_law_431 : decode b_L_law 431 = .ok (.laload, 1) := by decide +kernel
theorem d_L_law_432 : decode b_L_law 432 = .ok (.iload 6, 2) := by decide +kernel
theorem d_L_law_434 : decode b_L_law 434 = .ok (.i2l, 1) := by decide +kernel
theorem d_L_law_435 : decode b_L_law 435 = .ok (.lcmp, 1) := by decide +kernel
theorem d_L_law_436 : decode b_L_law 436 = .ok (.ifCond .eq 5, 3) := by decide +kernel
theorem d_L_law_439 : decode b_L_law 439 = .ok (.iconst 0, 1) := by decide +kernel
theorem d_L_law_440 : decode b_L_law 440 = .ok (.ireturn, 1) := by decide +kernel
theorem d_L_law_441 : decode b_L_law 441 = .ok (.goto 1219, 3) := by decide +kernel
theorem d_L_law_444 : decode b_L_law 444 = .ok (.aload_n 1, 1) := by decide +kernel
theorem d_L_law_445 : decode b_L_law 445 = .ok (.aload_n 0, 1) := by decide +kernel
theorem d_L_law_446 : decode b_L_law 446 = .ok (.iload 4, 2) := by decide +kernel
theorem d_L_law_448 : decode b_L_law 448 = .ok (.iconst 1, 1) := by decide +kernel
theorem d_L_law_449 : decode b_L_law 449 = .ok (.iadd, 1) := by decide +kernel
theorem d_L_law_450 : decode b_L_law 450 = .ok (.iaload, 1) := by decide +kernel
theorem d_L_law_451 : decode b_L_law 451 = .ok (.aload_n 3, 1) := by decide +kernel
theorem d_L_law_452 : decode b_L_law 452 = .ok (.invokestatic 125, 3) := by decide +kernel
theorem d_L_law_455 : decode b_L_law 455 = .ok (.istore 5, 2) := by decide +kernel
theorem d_L_law_457 : decode b_L_law 457 = .ok (.aload_n 2, 1) := by decide +kernel
theorem d_L_law_458 : decode b_L_law 458 = .ok (.aload_n 0, 1) := by decide +kernel
theorem d_L_law_459 : decode b_L_law 459 = .ok (.iload 4, 2) := by decide +kernel
theorem d_L_law_461 : decode b_L_law 461 = .ok (.iconst 1, 1) := by decide +kernel
theorem d_L_law_462 : decode b_L_law 462 = .ok (.iadd, 1) := by decide +kernel
theorem d_L_law_463 : decode b_L_law 463 = .ok (.iaload, 1) := by decide +kernel
theorem d_L_law_464 : decode b_L_law 464 = .ok (.invokevirtual 127, 3) := by decide +kernel
theorem d_L_law_467 : decode b_L_law 467 = .ok (.istore 6, 2) := by decide +kernel
theorem d_L_law_469 : decode b_L_law 469 = .ok (.aload_n 2, 1) := by decide +kernel
theorem d_L_law_470 : decode b_L_law 470 = .ok (.invokevirtual 104, 3) := by decide +kernel
theorem d_L_law_473 : decode b_L_law 473 = .ok (.iload 5, 2) := by decide +kernel
theorem d_L_law_475 : decode b_L_law 475 = .ok (.if_icmp .eq 5, 3) := by decide +kernel
theorem d_L_law_478 : decode b_L_law 478 = .ok (.iconst 0, 1) := by decide +kernel
theorem d_L_law_479 : decode b_L_law 479 = .ok (.ireturn, 1) := by decide +kernel
theorem d_L_law_480 : decode b_L_law 480 = .ok (.iload 5, 2) := by decide +kernel
theorem d_L_law_482 : decode b_L_law 482 = .ok (.ifCond .ne 15, 3) := by decide +kernel
theorem d_L_law_485 : decode b_L_law 485 = .ok (.aload_n 3, 1) := by decide +kernel
theorem d_L_law_486 : decode b_L_law 486 = .ok (.iconst 0, 1) := by decide +kernel
theorem d_L_law_487 : decode b_L_law 487 = .ok (.laload, 1) := by decide +kernel
theorem d_L_law_488 : decode b_L_law 488 = .ok (.iload 6, 2) := by decide +kernel
theorem d_L_law_490 : decode b_L_law 490 = .ok (.i2l, 1) := by decide +kernel
theorem d_L_law_491 : decode b_L_law 491 = .ok (.lcmp, 1) := by decide +kernel
theorem d_L_law_492 : decode b_L_law 492 = .ok (.ifCond .eq 5, 3) := by decide +kernel
theorem d_L_law_495 : decode b_L_law 495 = .ok (.iconst 0, 1) := by decide +kernel
theorem d_L_law_496 : decode b_L_law 496 = .ok (.ireturn, 1) := by decide +kernel
theorem d_L_law_497 : decode b_L_law 497 = .ok (.goto 1163, 3) := by decide +kernel
theorem d_L_law_500 : decode b_L_law 500 = .ok (.aload_n 1, 1) := by decide +kernel
theorem d_L_law_501 : decode b_L_law 501 = .ok (.aload_n 0, 1) := by decide +kernel
theorem d_L_law_502 : decode b_L_law 502 = .ok (.iload 4, 2) := by decide +kernel
theorem d_L_law_504 : decode b_L_law 504 = .ok (.iconst 1, 1) := by decide +kernel
theorem d_L_law_505 : decode b_L_law 505 = .ok (.iadd, 1) := by decide +kernel
theorem d_L_law_506 : decode b_L_law 506 = .ok (.iaload, 1) := by decide +kernel
theorem d_L_law_507 : decode b_L_law 507 = .ok (.aload_n 3, 1) := by decide +kernel
theorem d_L_law_508 : decode b_L_law 508 = .ok (.invokestatic 128, 3) := by decide +kernel
theorem d_L_law_511 : decode b_L_law 511 = .ok (.istore 5, 2) := by decide +kernel
theorem d_L_law_513 : decode b_L_law 513 = .ok (.aload_n 2, 1) := by decide +kernel
theorem d_L_law_514 : decode b_L_law 514 = .ok (.aload_n 0, 1) := by decide +kernel
theorem d_L_law_515 : decode b_L_law 515 = .ok (.iload 4, 2) := by decide +kernel
theorem d_L_law_517 : decode b_L_law 517 = .ok (.iconst 1, 1) := by decide +kernel
theorem d_L_law_518 : decode b_L_law 518 = .ok (.iadd, 1) := by decide +kernel
theorem d_L_law_519 : decode b_L_law 519 = .ok (.iaload, 1) := by decide +kernel
theorem d_L_law_520 : decode b_L_law 520 = .ok (.invokevirtual 130, 3) := by decide +kernel
theorem d_L_law_523 : decode b_L_law 523 = .ok (.istore 6, 2) := by decide +kernel
theorem d_L_law_525 : decode b_L_law 525 = .ok (.aload_n 2, 1) := by decide +kernel
theorem d_L_law_526 : decode b_L_law 526 = .ok (.invokevirtual 104, 3) := by decide +kernel
theorem d_L_law_529 : decode b_L_law 529 = .ok (.iload 5, 2) := by decide +kernel
theorem d_L_law_531 : decode b_L_law 531 = .ok (.if_icmp .eq 5, 3) := by decide +kernel
theorem d_L_law_534 : decode b_L_law 534 = .ok (.iconst 0, 1) := by decide +kernel
theorem d_L_law_535 : decode b_L_law 535 = .ok (.ireturn, 1) := by decide +kernel
theorem d_L_law_536 : decode b_L_law 536 = .ok (.iload 5, 2) := by decide +kernel
theorem d_L_law_538 : decode b_L_law 538 = .ok (.ifCond .ne 15, 3) := by decide +kernel
theorem d_L_law_541 : decode b_L_law 541 = .ok (.aload_n 3, 1) := by decide +kernel
theorem d_L_law_542 : decode b_L_law 542 = .ok (.iconst 0, 1) := by decide +kernel
theorem d_L_law_543 : decode b_L_law 543 = .ok (.laload, 1) := by decide +kernel
theorem d_L_law_544 : decode b_L_law 544 = .ok (.iload 6, 2) := by decide +kernel
theorem d_L_law_546 : decode b_L_law 546 = .ok (.i2l, 1) := by decide +kernel
theorem d_L_law_547 : decode b_L_law 547 = .ok (.lcmp, 1) := by decide +kernel
theorem d_L_law_548 : decode b_L_law 548 = .ok (.ifCond .eq 5, 3) := by decide +kernel
theorem d_L_law_551 : decode b_L_law 551 = .ok (.iconst 0, 1) := by decide +kernel
theorem d_L_law_552 : decode b_L_law 552 = .ok (.ireturn, 1) := by decide +kernel
theorem d_L_law_553 : decode b_L_law 553 = .ok (.goto 1107, 3) := by decide +kernel
theorem d_L_law_556 : decode b_L_law 556 = .ok (.aload_n 1, 1) := by decide +kernel
theorem d_L_law_557 : decode b_L_law 557 = .ok (.aload_n 0, 1) := by decide +kernel
theorem d_L_law_558 : decode b_L_law 558 = .ok (.iload 4, 2) := by decide +kernel
theorem d_L_law_560 : decode b_L_law 560 = .ok (.iconst 1, 1) := by decide +kernel
theorem d_L_law_561 : decode b_L_law 561 = .ok (.iadd, 1) := by decide +kernel
theorem d_L_law_562 : decode b_L_law 562 = .ok (.iaload, 1) := by decide +kernel
theorem d_L_law_563 : decode b_L_law 563 = .ok (.aload_n 3, 1) := by decide +kernel
theorem d_L_law_564 : decode b_L_law 564 = .ok (.invokestatic 131, 3) := by decide +kernel
theorem d_L_law_567 : decode b_L_law 567 = .ok (.istore 5, 2) := by decide +kernel
theorem d_L_law_569 : decode b_L_law 569 = .ok (.aload_n 2, 1) := by decide +kernel
theorem d_L_law_570 : decode b_L_law 570 = .ok (.aload_n 0, 1) := by decide +kernel
theorem d_L_law_571 : decode b_L_law 571 = .ok (.iload 4, 2) := by decide +kernel
theorem d_L_law_573 : decode b_L_law 573 = .ok (.iconst 1, 1) := by decide +kernel
theorem d_L_law_574 : decode b_L_law 574 = .ok (.iadd, 1) := by decide +kernel
theorem d_L_law_575 : decode b_L_law 575 = .ok (.iaload, 1) := by decide +kernel
theorem d_L_law_576 : decode b_L_law 576 = .ok (.invokevirtual 133, 3) := by decide +kernel
theorem d_L_law_579 : decode b_L_law 579 = .ok (.istore 6, 2) := by decide +kernel
theorem d_L_law_581 : decode b_L_law 581 = .ok (.aload_n 2, 1) := by decide +kernel
theorem d_L_law_582 : decode b_L_law 582 = .ok (.invokevirtual 104, 3) := by decide +kernel
theorem d_L_law_585 : decode b_L_law 585 = .ok (.iload 5, 2) := by decide +kernel
theorem d_L_law_587 : decode b_L_law 587 = .ok (.if_icmp .eq 5, 3) := by decide +kernel
theorem d_L_law_590 : decode b_L_law 590 = .ok (.iconst 0, 1) := by decide +kernel
theorem d_L_law_591 : decode b_L_law 591 = .ok (.ireturn, 1) := by decide +kernel
theorem d_L_law_592 : decode b_L_law 592 = .ok (.iload 5, 2) := by decide +kernel
theorem d_L_law_594 : decode b_L_law 594 = .ok (.ifCond .ne 15, 3) := by decide +kernel
theorem d_L_law_597 : decode b_L_law 597 = .ok (.aload_n 3, 1) := by decide +kernel
theorem d_L_law_598 : decode b_L_law 598 = .ok (.iconst 0, 1) := by decide +kernel
theorem d_L_law_599 : decode b_L_law 599 = .ok (.laload, 1) := by decide +kernel
theorem d_L_law_600 : decode b_L_law 600 = .ok (.iload 6, 2) := by decide +kernel
theorem d_L_law_602 : decode b_L_law 602 = .ok (.i2l, 1) := by decide +kernel
theorem d_L_law_603 : decode b_L_law 603 = .ok (.lcmp, 1) := by decide +kernel
theorem d_L_law_604 : decode b_L_law 604 = .ok (.ifCond .eq 5, 3) := by decide +kernel
theorem d_L_law_607 : decode b_L_law 607 = .ok (.iconst 0, 1) := by decide +kernel
theorem d_L_law_608 : decode b_L_law 608 = .ok (.ireturn, 1) := by decide +kernel
theorem d_L_law_609 : decode b_L_law 609 = .ok (.goto 1051, 3) := by decide +kernel
theorem d_L_law_612 : decode b_L_law 612 = .ok (.aload_n 1, 1) := by decide +kernel
theorem d_L_law_613 : decode b_L_law 613 = .ok (.aload_n 0, 1) := by decide +kernel
theorem d_L_law_614 : decode b_L_law 614 = .ok (.iload 4, 2) := by decide +kernel
theorem d_L_law_616 : decode b_L_law 616 = .ok (.iconst 1, 1) := by decide +kernel
theorem d_L_law_617 : decode b_L_law 617 = .ok (.iadd, 1) := by decide +kernel
theorem d_L_law_618 : decode b_L_law 618 = .ok (.iaload, 1) := by decide +kernel
theorem d_L_law_619 : decode b_L_law 619 = .ok (.invokevirtual 134, 3) := by decide +kernel
theorem d_L_law_622 : decode b_L_law 622 = .ok (.aload_n 2, 1) := by decide +kernel
theorem d_L_law_623 : decode b_L_law 623 = .ok (.aload_n 0, 1) := by decide +kernel
theorem d_L_law_624 : decode b_L_law 624 = .ok (.iload 4, 2) := by decide +kernel
theorem d_L_law_626 : decode b_L_law 626 = .ok (.iconst 1, 1) := by decide +kernel
theorem d_L_law_627 : decode b_L_law 627 = .ok (.iadd, 1) := by decide +kernel
theorem d_L_law_628 : decode b_L_law 628 = .ok (.iaload, 1) := by decide +kernel
theorem d_L_law_629 : decode b_L_law 629 = .ok (.invokevirtual 138, 3) := by decide +kernel
theorem d_L_law_632 : decode b_L_law 632 = .ok (.if_icmp .eq 1028, 3) := by decide +kernel
theorem d_L_law_635 : decode b_L_law 635 = .ok (.iconst 0, 1) := by decide +kernel
theorem d_L_law_636 : decode b_L_law 636 = .ok (.ireturn, 1) := by decide +kernel
theorem d_L_law_637 : decode b_L_law 637 = .ok (.aload_n 1, 1) := by decide +kernel
theorem d_L_law_638 : decode b_L_law 638 = .ok (.aload_n 0, 1) := by decide +kernel
theorem d_L_law_639 : decode b_L_law 639 = .ok (.iload 4, 2) := by decide +kernel
theorem d_L_law_641 : decode b_L_law 641 = .ok (.iconst 1, 1) := by decide +kernel
theorem d_L_law_642 : decode b_L_law 642 = .ok (.iadd, 1) := by decide +kernel
theorem d_L_law_643 : decode b_L_law 643 = .ok (.iaload, 1) := by decide +kernel
theorem d_L_law_644 : decode b_L_law 644 = .ok (.aload_n 0, 1) := by decide +kernel
theorem d_L_law_645 : decode b_L_law 645 = .ok (.iload 4, 2) := by decide +kernel
theorem d_L_law_647 : decode b_L_law 647 = .ok (.iconst 2, 1) := by decide +kernel
theorem d_L_law_648 : decode b_L_law 648 = .ok (.iadd, 1) := by decide +kernel
theorem d_L_law_649 : decode b_L_law 649 = .ok (.iaload, 1) := by decide +kernel
theorem d_L_law_650 : decode b_L_law 650 = .ok (.aload_n 0, 1) := by decide +kernel
theorem d_L_law_651 : decode b_L_law 651 = .ok (.iload 4, 2) := by decide +kernel
theorem d_L_law_653 : decode b_L_law 653 = .ok (.iconst 3, 1) := by decide +kernel
theorem d_L_law_654 : decode b_L_law 654 = .ok (.iadd, 1) := by decide +kernel
theorem d_L_law_655 : decode b_L_law 655 = .ok (.iaload, 1) := by decide +kernel
theorem d_L_law_656 : decode b_L_law 656 = .ok (.aload_n 3, 1) := by decide +kernel
theorem d_L_law_657 : decode b_L_law 657 = .ok (.invokestatic 139, 3) := by decide +kernel
theorem d_L_law_660 : decode b_L_law 660 = .ok (.istore 5, 2) := by decide +kernel
theorem d_L_law_662 : decode b_L_law 662 = .ok (.aload_n 2, 1) := by decide +kernel
theorem d_L_law_663 : decode b_L_law 663 = .ok (.aload_n 0, 1) := by decide +kernel
theorem d_L_law_664 : decode b_L_law 664 = .ok (.iload 4, 2) := by decide +kernel
theorem d_L_law_666 : decode b_L_law 666 = .ok (.iconst 1, 1) := by decide +kernel
theorem d_L_law_667 : decode b_L_law 667 = .ok (.iadd, 1) := by decide +kernel
theorem d_L_law_668 : decode b_L_law 668 = .ok (.iaload, 1) := by decide +kernel
theorem d_L_law_669 : decode b_L_law 669 = .ok (.aload_n 0, 1) := by decide +kernel
theorem d_L_law_670 : decode b_L_law 670 = .ok (.iload 4, 2) := by decide +kernel
theorem d_L_law_672 : decode b_L_law 672 = .ok (.iconst 2, 1) := by decide +kernel
theorem d_L_law_673 : decode b_L_law 673 = .ok (.iadd, 1) := by decide +kernel
theorem d_L_law_674 : decode b_L_law 674 = .ok (.iaload, 1) := by decide +kernel
theorem d_L_law_675 : decode b_L_law 675 = .ok (.aload_n 0, 1) := by decide +kernel
theorem d_L_law_676 : decode b_L_law 676 = .ok (.iload 4, 2) := by decide +kernel
theorem d_L_law_678 : decode b_L_law 678 = .ok (.iconst 3, 1) := by decide +kernel
theorem d_L_law_679 : decode b_L_law 679 = .ok (.iadd, 1) := by decide +kernel
theorem d_L_law_680 : decode b_L_law 680 = .ok (.iaload, 1) := by decide +kernel
theorem d_L_law_681 : decode b_L_law 681 = .ok (.invokevirtual 142, 3) := by decide +kernel
theorem d_L_law_684 : decode b_L_law 684 = .ok (.istore 6, 2) := by decide +kernel
theorem d_L_law_686 : decode b_L_law 686 = .ok (.aload_n 2, 1) := by decide +kernel
theorem d_L_law_687 : decode b_L_law 687 = .ok (.invokevirtual 104, 3) := by decide +kernel
theorem d_L_law_690 : decode b_L_law 690 = .ok (.iload 5, 2) := by decide +kernel
theorem d_L_law_692 : decode b_L_law 692 = .ok (.if_icmp .eq 5, 3) := by decide +kernel
theorem d_L_law_695 : decode b_L_law 695 = .ok (.iconst 0, 1) := by decide +kernel
theorem d_L_law_696 : decode b_L_law 696 = .ok (.ireturn, 1) := by decide +kernel
theorem d_L_law_697 : decode b_L_law 697 = .ok (.iload 5, 2) := by decide +kernel
theorem d_L_law_699 : decode b_L_law 699 = .ok (.ifCond .ne 15, 3) := by decide +kernel
theorem d_L_law_702 : decode b_L_law 702 = .ok (.aload_n 3, 1) := by decide +kernel
theorem d_L_law_703 : decode b_L_law 703 = .ok (.iconst 0, 1) := by decide +kernel
theorem d_L_law_704 : decode b_L_law 704 = .ok (.laload, 1) := by decide +kernel
theorem d_L_law_705 : decode b_L_law 705 = .ok (.iload 6, 2) := by decide +kernel
theorem d_L_law_707 : decode b_L_law 707 = .ok (.i2l, 1) := by decide +kernel
theorem d_L_law_708 : decode b_L_law 708 = .ok (.lcmp, 1) := by decide +kernel
theorem d_L_law_709 : decode b_L_law 709 = .ok (.ifCond .eq 5, 3) := by decide +kernel
theorem d_L_law_712 : decode b_L_law 712 = .ok (.iconst 0, 1) := by decide +kernel
theorem d_L_law_713 : decode b_L_law 713 = .ok (.ireturn, 1) := by decide +kernel
theorem d_L_law_714 : decode b_L_law 714 = .ok (.goto 946, 3) := by decide +kernel
theorem d_L_law_717 : decode b_L_law 717 = .ok (.aload_n 1, 1) := by decide +kernel
theorem d_L_law_718 : decode b_L_law 718 = .ok (.aload_n 0, 1) := by decide +kernel
theorem d_L_law_719 : decode b_L_law 719 = .ok (.iload 4, 2) := by decide +kernel
theorem d_L_law_721 : decode b_L_law 721 = .ok (.iconst 1, 1) := by decide +kernel
theorem d_L_law_722 : decode b_L_law 722 = .ok (.iadd, 1) := by decide +kernel
theorem d_L_law_723 : decode b_L_law 723 = .ok (.iaload, 1) := by decide +kernel
theorem d_L_law_724 : decode b_L_law 724 = .ok (.aload_n 0, 1) := by decide +kernel
theorem d_L_law_725 : decode b_L_law 725 = .ok (.iload 4, 2) := by decide +kernel
theorem d_L_law_727 : decode b_L_law 727 = .ok (.iconst 2, 1) := by decide +kernel
theorem d_L_law_728 : decode b_L_law 728 = .ok (.iadd, 1) := by decide +kernel
theorem d_L_law_729 : decode b_L_law 729 = .ok (.iaload, 1) := by decide +kernel
theorem d_L_law_730 : decode b_L_law 730 = .ok (.aload_n 3, 1) := by decide +kernel
theorem d_L_law_731 : decode b_L_law 731 = .ok (.invokestatic 143, 3) := by decide +kernel
theorem d_L_law_734 : decode b_L_law 734 = .ok (.istore 5, 2) := by decide +kernel
theorem d_L_law_736 : decode b_L_law 736 = .ok (.aload_n 2, 1) := by decide +kernel
theorem d_L_law_737 : decode b_L_law 737 = .ok (.aload_n 0, 1) := by decide +kernel
theorem d_L_law_738 : decode b_L_law 738 = .ok (.iload 4, 2) := by decide +kernel
theorem d_L_law_740 : decode b_L_law 740 = .ok (.iconst 1, 1) := by decide +kernel
theorem d_L_law_741 : decode b_L_law 741 = .ok (.iadd, 1) := by decide +kernel
theorem d_L_law_742 : decode b_L_law 742 = .ok (.iaload, 1) := by decide +kernel
theorem d_L_law_743 : decode b_L_law 743 = .ok (.aload_n 0, 1) := by decide +kernel
theorem d_L_law_744 : decode b_L_law 744 = .ok (.iload 4, 2) := by decide +kernel
theorem d_L_law_746 : decode b_L_law 746 = .ok (.iconst 2, 1) := by decide +kernel
theorem d_L_law_747 : decode b_L_law 747 = .ok (.iadd, 1) := by decide +kernel
theorem d_L_law_748 : decode b_L_law 748 = .ok (.iaload, 1) := by decide +kernel
theorem d_L_law_749 : decode b_L_law 749 = .ok (.invokevirtual 145, 3) := by decide +kernel
theorem d_L_law_752 : decode b_L_law 752 = .ok (.istore 6, 2) := by decide +kernel
theorem d_L_law_754 : decode b_L_law 754 = .ok (.aload_n 2, 1) := by decide +kernel
theorem d_L_law_755 : decode b_L_law 755 = .ok (.invokevirtual 104, 3) := by decide +kernel
theorem d_L_law_758 : decode b_L_law 758 = .ok (.iload 5, 2) := by decide +kernel
theorem d_L_law_760 : decode b_L_law 760 = .ok (.if_icmp .eq 5, 3) := by decide +kernel
theorem d_L_law_763 : decode b_L_law 763 = .ok (.iconst 0, 1) := by decide +kernel
theorem d_L_law_764 : decode b_L_law 764 = .ok (.ireturn, 1) := by decide +kernel
theorem d_L_law_765 : decode b_L_law 765 = .ok (.iload 5, 2) := by decide +kernel
theorem d_L_law_767 : decode b_L_law 767 = .ok (.ifCond .ne 15, 3) := by decide +kernel
theorem d_L_law_770 : decode b_L_law 770 = .ok (.aload_n 3, 1) := by decide +kernel
theorem d_L_law_771 : decode b_L_law 771 = .ok (.iconst 0, 1) := by decide +kernel
theorem d_L_law_772 : decode b_L_law 772 = .ok (.laload, 1) := by decide +kernel
theorem d_L_law_773 : decode b_L_law 773 = .ok (.iload 6, 2) := by decide +kernel
theorem d_L_law_775 : decode b_L_law 775 = .ok (.i2l, 1) := by decide +kernel
theorem d_L_law_776 : decode b_L_law 776 = .ok (.lcmp, 1) := by decide +kernel
theorem d_L_law_777 : decode b_L_law 777 = .ok (.ifCond .eq 5, 3) := by decide +kernel
theorem d_L_law_780 : decode b_L_law 780 = .ok (.iconst 0, 1) := by decide +kernel
theorem d_L_law_781 : decode b_L_law 781 = .ok (.ireturn, 1) := by decide +kernel
theorem d_L_law_782 : decode b_L_law 782 = .ok (.goto 878, 3) := by decide +kernel
theorem d_L_law_785 : decode b_L_law 785 = .ok (.aload_n 1, 1) := by decide +kernel
theorem d_L_law_786 : decode b_L_law 786 = .ok (.aload_n 0, 1) := by decide +kernel
theorem d_L_law_787 : decode b_L_law 787 = .ok (.iload 4, 2) := by decide +kernel
theorem d_L_law_789 : decode b_L_law 789 = .ok (.iconst 1, 1) := by decide +kernel
theorem d_L_law_790 : decode b_L_law 790 = .ok (.iadd, 1) := by decide +kernel
theorem d_L_law_791 : decode b_L_law 791 = .ok (.iaload, 1) := by decide +kernel
theorem d_L_law_792 : decode b_L_law 792 = .ok (.aload_n 0, 1) := by decide +kernel
theorem d_L_law_793 : decode b_L_law 793 = .ok (.iload 4, 2) := by decide +kernel
theorem d_L_law_795 : decode b_L_law 795 = .ok (.iconst 2, 1) := by decide +kernel
theorem d_L_law_796 : decode b_L_law 796 = .ok (.iadd, 1) := by decide +kernel
theorem d_L_law_797 : decode b_L_law 797 = .ok (.iaload, 1) := by decide +kernel
theorem d_L_law_798 : decode b_L_law 798 = .ok (.aload_n 3, 1) := by decide +kernel
theorem d_L_law_799 : decode b_L_law 799 = .ok (.invokestatic 146, 3) := by decide +kernel
theorem d_L_law_802 : decode b_L_law 802 = .ok (.istore 5, 2) := by decide +kernel
theorem d_L_law_804 : decode b_L_law 804 = .ok (.aload_n 2, 1) := by decide +kernel
theorem d_L_law_805 : decode b_L_law 805 = .ok (.aload_n 0, 1) := by decide +kernel
theorem d_L_law_806 : decode b_L_law 806 = .ok (.iload 4, 2) := by decide +kernel
theorem d_L_law_808 : decode b_L_law 808 = .ok (.iconst 1, 1) := by decide +kernel
theorem d_L_law_809 : decode b_L_law 809 = .ok (.iadd, 1) := by decide +kernel
theorem d_L_law_810 : decode b_L_law 810 = .ok (.iaload, 1) := by decide +kernel
theorem d_L_law_811 : decode b_L_law 811 = .ok (.aload_n 0, 1) := by decide +kernel
theorem d_L_law_812 : decode b_L_law 812 = .ok (.iload 4, 2) := by decide +kernel
theorem d_L_law_814 : decode b_L_law 814 = .ok (.iconst 2, 1) := by decide +kernel
theorem d_L_law_815 : decode b_L_law 815 = .ok (.iadd, 1) := by decide +kernel
theorem d_L_law_816 : decode b_L_law 816 = .ok (.iaload, 1) := by decide +kernel
theorem d_L_law_817 : decode b_L_law 817 = .ok (.invokevirtual 148, 3) := by decide +kernel
theorem d_L_law_820 : decode b_L_law 820 = .ok (.istore 6, 2) := by decide +kernel
theorem d_L_law_822 : decode b_L_law 822 = .ok (.aload_n 2, 1) := by decide +kernel
theorem d_L_law_823 : decode b_L_law 823 = .ok (.invokevirtual 104, 3) := by decide +kernel
theorem d_L_law_826 : decode b_L_law 826 = .ok (.iload 5, 2) := by decide +kernel
theorem d_L_law_828 : decode b_L_law 828 = .ok (.if_icmp .eq 5, 3) := by decide +kernel
theorem d_L_law_831 : decode b_L_law 831 = .ok (.iconst 0, 1) := by decide +kernel
theorem d_L_law_832 : decode b_L_law 832 = .ok (.ireturn, 1) := by decide +kernel
theorem d_L_law_833 : decode b_L_law 833 = .ok (.iload 5, 2) := by decide +kernel
theorem d_L_law_835 : decode b_L_law 835 = .ok (.ifCond .ne 15, 3) := by decide +kernel
theorem d_L_law_838 : decode b_L_law 838 = .ok (.aload_n 3, 1) := by decide +kernel
theorem d_L_law_839 : decode b_L_law 839 = .ok (.iconst 0, 1) := by decide +kernel
theorem d_L_law_840 : decode b_L_law 840 = .ok (.laload, 1) := by decide +kernel
theorem d_L_law_841 : decode b_L_law 841 = .ok (.iload 6, 2) := by decide +kernel
theorem d_L_law_843 : decode b_L_law 843 = .ok (.i2l, 1) := by decide +kernel
theorem d_L_law_844 : decode b_L_law 844 = .ok (.lcmp, 1) := by decide +kernel
theorem d_L_law_845 : decode b_L_law 845 = .ok (.ifCond .eq 5, 3) := by decide +kernel
theorem d_L_law_848 : decode b_L_law 848 = .ok (.iconst 0, 1) := by decide +kernel
theorem d_L_law_849 : decode b_L_law 849 = .ok (.ireturn, 1) := by decide +kernel
theorem d_L_law_850 : decode b_L_law 850 = .ok (.goto 810, 3) := by decide +kernel
theorem d_L_law_853 : decode b_L_law 853 = .ok (.aload_n 1, 1) := by decide +kernel
theorem d_L_law_854 : decode b_L_law 854 = .ok (.aload_n 0, 1) := by decide +kernel
theorem d_L_law_855 : decode b_L_law 855 = .ok (.iload 4, 2) := by decide +kernel
theorem d_L_law_857 : decode b_L_law 857 = .ok (.iconst 1, 1) := by decide +kernel
theorem d_L_law_858 : decode b_L_law 858 = .ok (.iadd, 1) := by decide +kernel
theorem d_L_law_859 : decode b_L_law 859 = .ok (.iaload, 1) := by decide +kernel
theorem d_L_law_860 : decode b_L_law 860 = .ok (.aload_n 3, 1) := by decide +kernel
theorem d_L_law_861 : decode b_L_law 861 = .ok (.invokestatic 149, 3) := by decide +kernel
theorem d_L_law_864 : decode b_L_law 864 = .ok (.istore 5, 2) := by decide +kernel
theorem d_L_law_866 : decode b_L_law 866 = .ok (.aload_n 2, 1) := by decide +kernel
theorem d_L_law_867 : decode b_L_law 867 = .ok (.aload_n 0, 1) := by decide +kernel
theorem d_L_law_868 : decode b_L_law 868 = .ok (.iload 4, 2) := by decide +kernel
theorem d_L_law_870 : decode b_L_law 870 = .ok (.iconst 1, 1) := by decide +kernel
theorem d_L_law_871 : decode b_L_law 871 = .ok (.iadd, 1) := by decide +kernel
theorem d_L_law_872 : decode b_L_law 872 = .ok (.iaload, 1) := by decide +kernel
theorem d_L_law_873 : decode b_L_law 873 = .ok (.invokevirtual 151, 3) := by decide +kernel
theorem d_L_law_876 : decode b_L_law 876 = .ok (.istore 6, 2) := by decide +kernel
theorem d_L_law_878 : decode b_L_law 878 = .ok (.aload_n 2, 1) := by decide +kernel
theorem d_L_law_879 : decode b_L_law 879 = .ok (.invokevirtual 104, 3) := by decide +kernel
theorem d_L_law_882 : decode b_L_law 882 = .ok (.iload 5, 2) := by decide +kernel
theorem d_L_law_884 : decode b_L_law 884 = .ok (.if_icmp .eq 5, 3) := by decide +kernel
theorem d_L_law_887 : decode b_L_law 887 = .ok (.iconst 0, 1) := by decide +kernel
theorem d_L_law_888 : decode b_L_law 888 = .ok (.ireturn, 1) := by decide +kernel
theorem d_L_law_889 : decode b_L_law 889 = .ok (.iload 5, 2) := by decide +kernel
theorem d_L_law_891 : decode b_L_law 891 = .ok (.ifCond .ne 15, 3) := by decide +kernel
theorem d_L_law_894 : decode b_L_law 894 = .ok (.aload_n 3, 1) := by decide +kernel
theorem d_L_law_895 : decode b_L_law 895 = .ok (.iconst 0, 1) := by decide +kernel
theorem d_L_law_896 : decode b_L_law 896 = .ok (.laload, 1) := by decide +kernel
theorem d_L_law_897 : decode b_L_law 897 = .ok (.iload 6, 2) := by decide +kernel
theorem d_L_law_899 : decode b_L_law 899 = .ok (.i2l, 1) := by decide +kernel
theorem d_L_law_900 : decode b_L_law 900 = .ok (.lcmp, 1) := by decide +kernel
theorem d_L_law_901 : decode b_L_law 901 = .ok (.ifCond .eq 5, 3) := by decide +kernel
theorem d_L_law_904 : decode b_L_law 904 = .ok (.iconst 0, 1) := by decide +kernel
theorem d_L_law_905 : decode b_L_law 905 = .ok (.ireturn, 1) := by decide +kernel
theorem d_L_law_906 : decode b_L_law 906 = .ok (.goto 754, 3) := by decide +kernel
theorem d_L_law_909 : decode b_L_law 909 = .ok (.aload_n 1, 1) := by decide +kernel
theorem d_L_law_910 : decode b_L_law 910 = .ok (.aload_n 0, 1) := by decide +kernel
theorem d_L_law_911 : decode b_L_law 911 = .ok (.iload 4, 2) := by decide +kernel
theorem d_L_law_913 : decode b_L_law 913 = .ok (.iconst 1, 1) := by decide +kernel
theorem d_L_law_914 : decode b_L_law 914 = .ok (.iadd, 1) := by decide +kernel
theorem d_L_law_915 : decode b_L_law 915 = .ok (.iaload, 1) := by decide +kernel
theorem d_L_law_916 : decode b_L_law 916 = .ok (.aload_n 3, 1) := by decide +kernel
theorem d_L_law_917 : decode b_L_law 917 = .ok (.invokestatic 152, 3) := by decide +kernel
theorem d_L_law_920 : decode b_L_law 920 = .ok (.istore 5, 2) := by decide +kernel
theorem d_L_law_922 : decode b_L_law 922 = .ok (.aload_n 2, 1) := by decide +kernel
theorem d_L_law_923 : decode b_L_law 923 = .ok (.aload_n 0, 1) := by decide +kernel
theorem d_L_law_924 : decode b_L_law 924 = .ok (.iload 4, 2) := by decide +kernel
theorem d_L_law_926 : decode b_L_law 926 = .ok (.iconst 1, 1) := by decide +kernel
theorem d_L_law_927 : decode b_L_law 927 = .ok (.iadd, 1) := by decide +kernel
theorem d_L_law_928 : decode b_L_law 928 = .ok (.iaload, 1) := by decide +kernel
theorem d_L_law_929 : decode b_L_law 929 = .ok (.invokevirtual 154, 3) := by decide +kernel
theorem d_L_law_932 : decode b_L_law 932 = .ok (.istore 6, 2) := by decide +kernel
theorem d_L_law_934 : decode b_L_law 934 = .ok (.aload_n 2, 1) := by decide +kernel
theorem d_L_law_935 : decode b_L_law 935 = .ok (.invokevirtual 104, 3) := by decide +kernel
theorem d_L_law_938 : decode b_L_law 938 = .ok (.iload 5, 2) := by decide +kernel
theorem d_L_law_940 : decode b_L_law 940 = .ok (.if_icmp .eq 5, 3) := by decide +kernel
theorem d_L_law_943 : decode b_L_law 943 = .ok (.iconst 0, 1) := by decide +kernel
theorem d_L_law_944 : decode b_L_law 944 = .ok (.ireturn, 1) := by decide +kernel
theorem d_L_law_945 : decode b_L_law 945 = .ok (.iload 5, 2) := by decide +kernel
theorem d_L_law_947 : decode b_L_law 947 = .ok (.ifCond .ne 15, 3) := by decide +kernel
theorem d_L_law_950 : decode b_L_law 950 = .ok (.aload_n 3, 1) := by decide +kernel
theorem d_L_law_951 : decode b_L_law 951 = .ok (.iconst 0, 1) := by decide +kernel
theorem d_L_law_952 : decode b_L_law 952 = .ok (.laload, 1) := by decide +kernel
theorem d_L_law_953 : decode b_L_law 953 = .ok (.iload 6, 2) := by decide +kernel
theorem d_L_law_955 : decode b_L_law 955 = .ok (.i2l, 1) := by decide +kernel
theorem d_L_law_956 : decode b_L_law 956 = .ok (.lcmp, 1) := by decide +kernel
theorem d_L_law_957 : decode b_L_law 957 = .ok (.ifCond .eq 5, 3) := by decide +kernel
theorem d_L_law_960 : decode b_L_law 960 = .ok (.iconst 0, 1) := by decide +kernel
theorem d_L_law_961 : decode b_L_law 961 = .ok (.ireturn, 1) := by decide +kernel
theorem d_L_law_962 : decode b_L_law 962 = .ok (.goto 698, 3) := by decide +kernel
theorem d_L_law_965 : decode b_L_law 965 = .ok (.aload_n 1, 1) := by decide +kernel
theorem d_L_law_966 : decode b_L_law 966 = .ok (.aload_n 0, 1) := by decide +kernel
theorem d_L_law_967 : decode b_L_law 967 = .ok (.iload 4, 2) := by decide +kernel
theorem d_L_law_969 : decode b_L_law 969 = .ok (.iconst 1, 1) := by decide +kernel
theorem d_L_law_970 : decode b_L_law 970 = .ok (.iadd, 1) := by decide +kernel
theorem d_L_law_971 : decode b_L_law 971 = .ok (.iaload, 1) := by decide +kernel
theorem d_L_law_972 : decode b_L_law 972 = .ok (.aload_n 3, 1) := by decide +kernel
theorem d_L_law_973 : decode b_L_law 973 = .ok (.invokestatic 155, 3) := by decide +kernel
theorem d_L_law_976 : decode b_L_law 976 = .ok (.istore 5, 2) := by decide +kernel
theorem d_L_law_978 : decode b_L_law 978 = .ok (.aload_n 2, 1) := by decide +kernel
theorem d_L_law_979 : decode b_L_law 979 = .ok (.aload_n 0, 1) := by decide +kernel
theorem d_L_law_980 : decode b_L_law 980 = .ok (.iload 4, 2) := by decide +kernel
theorem d_L_law_982 : decode b_L_law 982 = .ok (.iconst 1, 1) := by decide +kernel
theorem d_L_law_983 : decode b_L_law 983 = .ok (.iadd, 1) := by decide +kernel
theorem d_L_law_984 : decode b_L_law 984 = .ok (.iaload, 1) := by decide +kernel
theorem d_L_law_985 : decode b_L_law 985 = .ok (.invokevirtual 157, 3) := by decide +kernel
theorem d_L_law_988 : decode b_L_law 988 = .ok (.istore 6, 2) := by decide +kernel
theorem d_L_law_990 : decode b_L_law 990 = .ok (.aload_n 2, 1) := by decide +kernel
theorem d_L_law_991 : decode b_L_law 991 = .ok (.invokevirtual 104, 3) := by decide +kernel
theorem d_L_law_994 : decode b_L_law 994 = .ok (.iload 5, 2) := by decide +kernel
theorem d_L_law_996 : decode b_L_law 996 = .ok (.if_icmp .eq 5, 3) := by decide +kernel
theorem d_L_law_999 : decode b_L_law 999 = .ok (.iconst 0, 1) := by decide +kernel
theorem d_L_law_1000 : decode b_L_law 1000 = .ok (.ireturn, 1) := by decide +kernel
theorem d_L_law_1001 : decode b_L_law 1001 = .ok (.iload 5, 2) := by decide +kernel
theorem d_L_law_1003 : decode b_L_law 1003 = .ok (.ifCond .ne 15, 3) := by decide +kernel
theorem d_L_law_1006 : decode b_L_law 1006 = .ok (.aload_n 3, 1) := by decide +kernel
theorem d_L_law_1007 : decode b_L_law 1007 = .ok (.iconst 0, 1) := by decide +kernel
theorem d_L_law_1008 : decode b_L_law 1008 = .ok (.laload, 1) := by decide +kernel
theorem d_L_law_1009 : decode b_L_law 1009 = .ok (.iload 6, 2) := by decide +kernel
theorem d_L_law_1011 : decode b_L_law 1011 = .ok (.i2l, 1) := by decide +kernel
theorem d_L_law_1012 : decode b_L_law 1012 = .ok (.lcmp, 1) := by decide +kernel
theorem d_L_law_1013 : decode b_L_law 1013 = .ok (.ifCond .eq 5, 3) := by decide +kernel
theorem d_L_law_1016 : decode b_L_law 1016 = .ok (.iconst 0, 1) := by decide +kernel
theorem d_L_law_1017 : decode b_L_law 1017 = .ok (.ireturn, 1) := by decide +kernel
theorem d_L_law_1018 : decode b_L_law 1018 = .ok (.goto 642, 3) := by decide +kernel
theorem d_L_law_1021 : decode b_L_law 1021 = .ok (.aload_n 1, 1) := by decide +kernel
theorem d_L_law_1022 : decode b_L_law 1022 = .ok (.aload_n 0, 1) := by decide +kernel
theorem d_L_law_1023 : decode b_L_law 1023 = .ok (.iload 4, 2) := by decide +kernel
theorem d_L_law_1025 : decode b_L_law 1025 = .ok (.iconst 1, 1) := by decide +kernel
theorem d_L_law_1026 : decode b_L_law 1026 = .ok (.iadd, 1) := by decide +kernel
theorem d_L_law_1027 : decode b_L_law 1027 = .ok (.iaload, 1) := by decide +kernel
theorem d_L_law_1028 : decode b_L_law 1028 = .ok (.aload_n 0, 1) := by decide +kernel
theorem d_L_law_1029 : decode b_L_law 1029 = .ok (.iload 4, 2) := by decide +kernel
theorem d_L_law_1031 : decode b_L_law 1031 = .ok (.iconst 2, 1) := by decide +kernel
theorem d_L_law_1032 : decode b_L_law 1032 = .ok (.iadd, 1) := by decide +kernel
theorem d_L_law_1033 : decode b_L_law 1033 = .ok (.iaload, 1) := by decide +kernel
theorem d_L_law_1034 : decode b_L_law 1034 = .ok (.aload_n 3, 1) := by decide +kernel
theorem d_L_law_1035 : decode b_L_law 1035 = .ok (.invokestatic 158, 3) := by decide +kernel
theorem d_L_law_1038 : decode b_L_law 1038 = .ok (.istore 5, 2) := by decide +kernel
theorem d_L_law_1040 : decode b_L_law 1040 = .ok (.aload_n 2, 1) := by decide +kernel
theorem d_L_law_1041 : decode b_L_law 1041 = .ok (.aload_n 0, 1) := by decide +kernel
theorem d_L_law_1042 : decode b_L_law 1042 = .ok (.iload 4, 2) := by decide +kernel
theorem d_L_law_1044 : decode b_L_law 1044 = .ok (.iconst 1, 1) := by decide +kernel
theorem d_L_law_1045 : decode b_L_law 1045 = .ok (.iadd, 1) := by decide +kernel
theorem d_L_law_1046 : decode b_L_law 1046 = .ok (.iaload, 1) := by decide +kernel
theorem d_L_law_1047 : decode b_L_law 1047 = .ok (.aload_n 0, 1) := by decide +kernel
theorem d_L_law_1048 : decode b_L_law 1048 = .ok (.iload 4, 2) := by decide +kernel
theorem d_L_law_1050 : decode b_L_law 1050 = .ok (.iconst 2, 1) := by decide +kernel
theorem d_L_law_1051 : decode b_L_law 1051 = .ok (.iadd, 1) := by decide +kernel
theorem d_L_law_1052 : decode b_L_law 1052 = .ok (.iaload, 1) := by decide +kernel
theorem d_L_law_1053 : decode b_L_law 1053 = .ok (.invokevirtual 160, 3) := by decide +kernel
theorem d_L_law_1056 : decode b_L_law 1056 = .ok (.istore 6, 2) := by decide +kernel
theorem d_L_law_1058 : decode b_L_law 1058 = .ok (.aload_n 2, 1) := by decide +kernel
theorem d_L_law_1059 : decode b_L_law 1059 = .ok (.invokevirtual 104, 3) := by decide +kernel
theorem d_L_law_1062 : decode b_L_law 1062 = .ok (.iload 5, 2) := by decide +kernel
theorem d_L_law_1064 : decode b_L_law 1064 = .ok (.if_icmp .eq 5, 3) := by decide +kernel
theorem d_L_law_1067 : decode b_L_law 1067 = .ok (.iconst 0, 1) := by decide +kernel
theorem d_L_law_1068 : decode b_L_law 1068 = .ok (.ireturn, 1) := by decide +kernel
theorem d_L_law_1069 : decode b_L_law 1069 = .ok (.iload 5, 2) := by decide +kernel
theorem d_L_law_1071 : decode b_L_law 1071 = .ok (.ifCond .ne 15, 3) := by decide +kernel
theorem d_L_law_1074 : decode b_L_law 1074 = .ok (.aload_n 3, 1) := by decide +kernel
theorem d_L_law_1075 : decode b_L_law 1075 = .ok (.iconst 0, 1) := by decide +kernel
theorem d_L_law_1076 : decode b_L_law 1076 = .ok (.laload, 1) := by decide +kernel
theorem d_L_law_1077 : decode b_L_law 1077 = .ok (.iload 6, 2) := by decide +kernel
theorem d_L_law_1079 : decode b_L_law 1079 = .ok (.i2l, 1) := by decide +kernel
theorem d_L_law_1080 : decode b_L_law 1080 = .ok (.lcmp, 1) := by decide +kernel
theorem d_L_law_1081 : decode b_L_law 1081 = .ok (.ifCond .eq 5, 3) := by decide +kernel
theorem d_L_law_1084 : decode b_L_law 1084 = .ok (.iconst 0, 1) := by decide +kernel
theorem d_L_law_1085 : decode b_L_law 1085 = .ok (.ireturn, 1) := by decide +kernel
theorem d_L_law_1086 : decode b_L_law 1086 = .ok (.goto 574, 3) := by decide +kernel
theorem d_L_law_1089 : decode b_L_law 1089 = .ok (.aload_n 1, 1) := by decide +kernel
theorem d_L_law_1090 : decode b_L_law 1090 = .ok (.aload_n 0, 1) := by decide +kernel
theorem d_L_law_1091 : decode b_L_law 1091 = .ok (.iload 4, 2) := by decide +kernel
theorem d_L_law_1093 : decode b_L_law 1093 = .ok (.iconst 1, 1) := by decide +kernel
theorem d_L_law_1094 : decode b_L_law 1094 = .ok (.iadd, 1) := by decide +kernel
theorem d_L_law_1095 : decode b_L_law 1095 = .ok (.iaload, 1) := by decide +kernel
theorem d_L_law_1096 : decode b_L_law 1096 = .ok (.aload_n 0, 1) := by decide +kernel
theorem d_L_law_1097 : decode b_L_law 1097 = .ok (.iload 4, 2) := by decide +kernel
theorem d_L_law_1099 : decode b_L_law 1099 = .ok (.iconst 2, 1) := by decide +kernel
theorem d_L_law_1100 : decode b_L_law 1100 = .ok (.iadd, 1) := by decide +kernel
theorem d_L_law_1101 : decode b_L_law 1101 = .ok (.iaload, 1) := by decide +kernel
theorem d_L_law_1102 : decode b_L_law 1102 = .ok (.aload_n 3, 1) := by decide +kernel
theorem d_L_law_1103 : decode b_L_law 1103 = .ok (.invokestatic 161, 3) := by decide +kernel
theorem d_L_law_1106 : decode b_L_law 1106 = .ok (.istore 5, 2) := by decide +kernel
theorem d_L_law_1108 : decode b_L_law 1108 = .ok (.aload_n 2, 1) := by decide +kernel
theorem d_L_law_1109 : decode b_L_law 1109 = .ok (.aload_n 0, 1) := by decide +kernel
theorem d_L_law_1110 : decode b_L_law 1110 = .ok (.iload 4, 2) := by decide +kernel
theorem d_L_law_1112 : decode b_L_law 1112 = .ok (.iconst 1, 1) := by decide +kernel
theorem d_L_law_1113 : decode b_L_law 1113 = .ok (.iadd, 1) := by decide +kernel
theorem d_L_law_1114 : decode b_L_law 1114 = .ok (.iaload, 1) := by decide +kernel
theorem d_L_law_1115 : decode b_L_law 1115 = .ok (.aload_n 0, 1) := by decide +kernel
theorem d_L_law_1116 : decode b_L_law 1116 = .ok (.iload 4, 2) := by decide +kernel
theorem d_L_law_1118 : decode b_L_law 1118 = .ok (.iconst 2, 1) := by decide +kernel
theorem d_L_law_1119 : decode b_L_law 1119 = .ok (.iadd, 1) := by decide +kernel
theorem d_L_law_1120 : decode b_L_law 1120 = .ok (.iaload, 1) := by decide +kernel
theorem d_L_law_1121 : decode b_L_law 1121 = .ok (.invokevirtual 163, 3) := by decide +kernel
theorem d_L_law_1124 : decode b_L_law 1124 = .ok (.istore 6, 2) := by decide +kernel
theorem d_L_law_1126 : decode b_L_law 1126 = .ok (.aload_n 2, 1) := by decide +kernel
theorem d_L_law_1127 : decode b_L_law 1127 = .ok (.invokevirtual 104, 3) := by decide +kernel
theorem d_L_law_1130 : decode b_L_law 1130 = .ok (.iload 5, 2) := by decide +kernel
theorem d_L_law_1132 : decode b_L_law 1132 = .ok (.if_icmp .eq 5, 3) := by decide +kernel
theorem d_L_law_1135 : decode b_L_law 1135 = .ok (.iconst 0, 1) := by decide +kernel
theorem d_L_law_1136 : decode b_L_law 1136 = .ok (.ireturn, 1) := by decide +kernel
theorem d_L_law_1137 : decode b_L_law 1137 = .ok (.iload 5, 2) := by decide +kernel
theorem d_L_law_1139 : decode b_L_law 1139 = .ok (.ifCond .ne 15, 3) := by decide +kernel
theorem d_L_law_1142 : decode b_L_law 1142 = .ok (.aload_n 3, 1) := by decide +kernel
theorem d_L_law_1143 : decode b_L_law 1143 = .ok (.iconst 0, 1) := by decide +kernel
theorem d_L_law_1144 : decode b_L_law 1144 = .ok (.laload, 1) := by decide +kernel
theorem d_L_law_1145 : decode b_L_law 1145 = .ok (.iload 6, 2) := by decide +kernel
theorem d_L_law_1147 : decode b_L_law 1147 = .ok (.i2l, 1) := by decide +kernel
theorem d_L_law_1148 : decode b_L_law 1148 = .ok (.lcmp, 1) := by decide +kernel
theorem d_L_law_1149 : decode b_L_law 1149 = .ok (.ifCond .eq 5, 3) := by decide +kernel
theorem d_L_law_1152 : decode b_L_law 1152 = .ok (.iconst 0, 1) := by decide +kernel
theorem d_L_law_1153 : decode b_L_law 1153 = .ok (.ireturn, 1) := by decide +kernel
theorem d_L_law_1154 : decode b_L_law 1154 = .ok (.goto 506, 3) := by decide +kernel
theorem d_L_law_1157 : decode b_L_law 1157 = .ok (.aload_n 1, 1) := by decide +kernel
theorem d_L_law_1158 : decode b_L_law 1158 = .ok (.aload_n 0, 1) := by decide +kernel
theorem d_L_law_1159 : decode b_L_law 1159 = .ok (.iload 4, 2) := by decide +kernel
theorem d_L_law_1161 : decode b_L_law 1161 = .ok (.iconst 1, 1) := by decide +kernel
theorem d_L_law_1162 : decode b_L_law 1162 = .ok (.iadd, 1) := by decide +kernel
theorem d_L_law_1163 : decode b_L_law 1163 = .ok (.iaload, 1) := by decide +kernel
theorem d_L_law_1164 : decode b_L_law 1164 = .ok (.aload_n 0, 1) := by decide +kernel
theorem d_L_law_1165 : decode b_L_law 1165 = .ok (.iload 4, 2) := by decide +kernel
theorem d_L_law_1167 : decode b_L_law 1167 = .ok (.iconst 2, 1) := by decide +kernel
theorem d_L_law_1168 : decode b_L_law 1168 = .ok (.iadd, 1) := by decide +kernel
theorem d_L_law_1169 : decode b_L_law 1169 = .ok (.iaload, 1) := by decide +kernel
theorem d_L_law_1170 : decode b_L_law 1170 = .ok (.aload_n 3, 1) := by decide +kernel
theorem d_L_law_1171 : decode b_L_law 1171 = .ok (.invokestatic 164, 3) := by decide +kernel
theorem d_L_law_1174 : decode b_L_law 1174 = .ok (.istore 5, 2) := by decide +kernel
theorem d_L_law_1176 : decode b_L_law 1176 = .ok (.aload_n 2, 1) := by decide +kernel
theorem d_L_law_1177 : decode b_L_law 1177 = .ok (.aload_n 0, 1) := by decide +kernel
theorem d_L_law_1178 : decode b_L_law 1178 = .ok (.iload 4, 2) := by decide +kernel
theorem d_L_law_1180 : decode b_L_law 1180 = .ok (.iconst 1, 1) := by decide +kernel
theorem d_L_law_1181 : decode b_L_law 1181 = .ok (.iadd, 1) := by decide +kernel
theorem d_L_law_1182 : decode b_L_law 1182 = .ok (.iaload, 1) := by decide +kernel
theorem d_L_law_1183 : decode b_L_law 1183 = .ok (.aload_n 0, 1) := by decide +kernel
theorem d_L_law_1184 : decode b_L_law 1184 = .ok (.iload 4, 2) := by decide +kernel
theorem d_L_law_1186 : decode b_L_law 1186 = .ok (.iconst 2, 1) := by decide +kernel
theorem d_L_law_1187 : decode b_L_law 1187 = .ok (.iadd, 1) := by decide +kernel
theorem d_L_law_1188 : decode b_L_law 1188 = .ok (.iaload, 1) := by decide +kernel
theorem d_L_law_1189 : decode b_L_law 1189 = .ok (.invokevirtual 166, 3) := by decide +kernel
theorem d_L_law_1192 : decode b_L_law 1192 = .ok (.istore 6, 2) := by decide +kernel
theorem d_L_law_1194 : decode b_L_law 1194 = .ok (.aload_n 2, 1) := by decide +kernel
theorem d_L_law_1195 : decode b_L_law 1195 = .ok (.invokevirtual 104, 3) := by decide +kernel
theorem d_L_law_1198 : decode b_L_law 1198 = .ok (.iload 5, 2) := by decide +kernel
theorem d_L_law_1200 : decode b_L_law 1200 = .ok (.if_icmp .eq 5, 3) := by decide +kernel
theorem d_L_law_1203 : decode b_L_law 1203 = .ok (.iconst 0, 1) := by decide +kernel
theorem d_L_law_1204 : decode b_L_law 1204 = .ok (.ireturn, 1) := by decide +kernel
theorem d_L_law_1205 : decode b_L_law 1205 = .ok (.iload 5, 2) := by decide +kernel
theorem d_L_law_1207 : decode b_L_law 1207 = .ok (.ifCond .ne 22, 3) := by decide +kernel
theorem d_L_law_1210 : decode b_L_law 1210 = .ok (.aload_n 3, 1) := by decide +kernel
theorem d_L_law_1211 : decode b_L_law 1211 = .ok (.iconst 0, 1) := by decide +kernel
theorem d_L_law_1212 : decode b_L_law 1212 = .ok (.laload, 1) := by decide +kernel
theorem d_L_law_1213 : decode b_L_law 1213 = .ok (.iload 6, 2) := by decide +kernel
theorem d_L_law_1215 : decode b_L_law 1215 = .ok (.ifCond .eq 7, 3) := by decide +kernel
theorem d_L_law_1218 : decode b_L_law 1218 = .ok (.lconst 1, 1) := by decide +kernel
theorem d_L_law_1219 : decode b_L_law 1219 = .ok (.goto 4, 3) := by decide +kernel
theorem d_L_law_1222 : decode b_L_law 1222 = .ok (.lconst 0, 1) := by decide +kernel
theorem d_L_law_1223 : decode b_L_law 1223 = .ok (.lcmp, 1) := by decide +kernel
theorem d_L_law_1224 : decode b_L_law 1224 = .ok (.ifCond .eq 5, 3) := by decide +kernel
theorem d_L_law_1227 : decode b_L_law 1227 = .ok (.iconst 0, 1) := by decide +kernel
theorem d_L_law_1228 : decode b_L_law 1228 = .ok (.ireturn, 1) := by decide +kernel
theorem d_L_law_1229 : decode b_L_law 1229 = .ok (.goto 431, 3) := by decide +kernel
theorem d_L_law_1232 : decode b_L_law 1232 = .ok (.aload_n 1, 1) := by decide +kernel
theorem d_L_law_1233 : decode b_L_law 1233 = .ok (.aload_n 0, 1) := by decide +kernel
theorem d_L_law_1234 : decode b_L_law 1234 = .ok (.iload 4, 2) := by decide +kernel
theorem d_L_law_1236 : decode b_L_law 1236 = .ok (.iconst 1, 1) := by decide +kernel
theorem d_L_law_1237 : decode b_L_law 1237 = .ok (.iadd, 1) := by decide +kernel
theorem d_L_law_1238 : decode b_L_law 1238 = .ok (.iaload, 1) := by decide +kernel
theorem d_L_law_1239 : decode b_L_law 1239 = .ok (.aload_n 3, 1) := by decide +kernel
theorem d_L_law_1240 : decode b_L_law 1240 = .ok (.invokestatic 167, 3) := by decide +kernel
theorem d_L_law_1243 : decode b_L_law 1243 = .ok (.istore 5, 2) := by decide +kernel
theorem d_L_law_1245 : decode b_L_law 1245 = .ok (.aload_n 2, 1) := by decide +kernel
theorem d_L_law_1246 : decode b_L_law 1246 = .ok (.aload_n 0, 1) := by decide +kernel
theorem d_L_law_1247 : decode b_L_law 1247 = .ok (.iload 4, 2) := by decide +kernel
theorem d_L_law_1249 : decode b_L_law 1249 = .ok (.iconst 1, 1) := by decide +kernel
theorem d_L_law_1250 : decode b_L_law 1250 = .ok (.iadd, 1) := by decide +kernel
theorem d_L_law_1251 : decode b_L_law 1251 = .ok (.iaload, 1) := by decide +kernel
theorem d_L_law_1252 : decode b_L_law 1252 = .ok (.invokevirtual 169, 3) := by decide +kernel
theorem d_L_law_1255 : decode b_L_law 1255 = .ok (.istore 6, 2) := by decide +kernel
theorem d_L_law_1257 : decode b_L_law 1257 = .ok (.aload_n 2, 1) := by decide +kernel
theorem d_L_law_1258 : decode b_L_law 1258 = .ok (.invokevirtual 104, 3) := by decide +kernel
theorem d_L_law_1261 : decode b_L_law 1261 = .ok (.iload 5, 2) := by decide +kernel
theorem d_L_law_1263 : decode b_L_law 1263 = .ok (.if_icmp .eq 5, 3) := by decide +kernel
theorem d_L_law_1266 : decode b_L_law 1266 = .ok (.iconst 0, 1) := by decide +kernel
theorem d_L_law_1267 : decode b_L_law 1267 = .ok (.ireturn, 1) := by decide +kernel
theorem d_L_law_1268 : decode b_L_law 1268 = .ok (.iload 5, 2) := by decide +kernel
theorem d_L_law_1270 : decode b_L_law 1270 = .ok (.ifCond .ne 15, 3) := by decide +kernel
theorem d_L_law_1273 : decode b_L_law 1273 = .ok (.aload_n 3, 1) := by decide +kernel
theorem d_L_law_1274 : decode b_L_law 1274 = .ok (.iconst 0, 1) := by decide +kernel
theorem d_L_law_1275 : decode b_L_law 1275 = .ok (.laload, 1) := by decide +kernel
theorem d_L_law_1276 : decode b_L_law 1276 = .ok (.iload 6, 2) := by decide +kernel
theorem d_L_law_1278 : decode b_L_law 1278 = .ok (.i2l, 1) := by decide +kernel
theorem d_L_law_1279 : decode b_L_law 1279 = .ok (.lcmp, 1) := by decide +kernel
theorem d_L_law_1280 : decode b_L_law 1280 = .ok (.ifCond .eq 5, 3) := by decide +kernel
theorem d_L_law_1283 : decode b_L_law 1283 = .ok (.iconst 0, 1) := by decide +kernel
theorem d_L_law_1284 : decode b_L_law 1284 = .ok (.ireturn, 1) := by decide +kernel
theorem d_L_law_1285 : decode b_L_law 1285 = .ok (.goto 375, 3) := by decide +kernel
theorem d_L_law_1288 : decode b_L_law 1288 = .ok (.aload_n 1, 1) := by decide +kernel
theorem d_L_law_1289 : decode b_L_law 1289 = .ok (.aload_n 0, 1) := by decide +kernel
theorem d_L_law_1290 : decode b_L_law 1290 = .ok (.iload 4, 2) := by decide +kernel
theorem d_L_law_1292 : decode b_L_law 1292 = .ok (.iconst 1, 1) := by decide +kernel
theorem d_L_law_1293 : decode b_L_law 1293 = .ok (.iadd, 1) := by decide +kernel
theorem d_L_law_1294 : decode b_L_law 1294 = .ok (.iaload, 1) := by decide +kernel
theorem d_L_law_1295 : decode b_L_law 1295 = .ok (.aload_n 0, 1) := by decide +kernel
theorem d_L_law_1296 : decode b_L_law 1296 = .ok (.iload 4, 2) := by decide +kernel
theorem d_L_law_1298 : decode b_L_law 1298 = .ok (.iconst 2, 1) := by decide +kernel
theorem d_L_law_1299 : decode b_L_law 1299 = .ok (.iadd, 1) := by decide +kernel
theorem d_L_law_1300 : decode b_L_law 1300 = .ok (.iaload, 1) := by decide +kernel
theorem d_L_law_1301 : decode b_L_law 1301 = .ok (.aload_n 0, 1) := by decide +kernel
theorem d_L_law_1302 : decode b_L_law 1302 = .ok (.iload 4, 2) := by decide +kernel
theorem d_L_law_1304 : decode b_L_law 1304 = .ok (.iconst 3, 1) := by decide +kernel
theorem d_L_law_1305 : decode b_L_law 1305 = .ok (.iadd, 1) := by decide +kernel
theorem d_L_law_1306 : decode b_L_law 1306 = .ok (.iaload, 1) := by decide +kernel
theorem d_L_law_1307 : decode b_L_law 1307 = .ok (.aload_n 3, 1) := by decide +kernel
theorem d_L_law_1308 : decode b_L_law 1308 = .ok (.invokestatic 170, 3) := by decide +kernel
theorem d_L_law_1311 : decode b_L_law 1311 = .ok (.istore 5, 2) := by decide +kernel
theorem d_L_law_1313 : decode b_L_law 1313 = .ok (.aload_n 2, 1) := by decide +kernel
theorem d_L_law_1314 : decode b_L_law 1314 = .ok (.aload_n 0, 1) := by decide +kernel
theorem d_L_law_1315 : decode b_L_law 1315 = .ok (.iload 4, 2) := by decide +kernel
theorem d_L_law_1317 : decode b_L_law 1317 = .ok (.iconst 1, 1) := by decide +kernel
theorem d_L_law_1318 : decode b_L_law 1318 = .ok (.iadd, 1) := by decide +kernel
theorem d_L_law_1319 : decode b_L_law 1319 = .ok (.iaload, 1) := by decide +kernel
theorem d_L_law_1320 : decode b_L_law 1320 = .ok (.aload_n 0, 1) := by decide +kernel
theorem d_L_law_1321 : decode b_L_law 1321 = .ok (.iload 4, 2) := by decide +kernel
theorem d_L_law_1323 : decode b_L_law 1323 = .ok (.iconst 2, 1) := by decide +kernel
theorem d_L_law_1324 : decode b_L_law 1324 = .ok (.iadd, 1) := by decide +kernel
theorem d_L_law_1325 : decode b_L_law 1325 = .ok (.iaload, 1) := by decide +kernel
theorem d_L_law_1326 : decode b_L_law 1326 = .ok (.aload_n 0, 1) := by decide +kernel
theorem d_L_law_1327 : decode b_L_law 1327 = .ok (.iload 4, 2) := by decide +kernel
theorem d_L_law_1329 : decode b_L_law 1329 = .ok (.iconst 3, 1) := by decide +kernel
theorem d_L_law_1330 : decode b_L_law 1330 = .ok (.iadd, 1) := by decide +kernel
theorem d_L_law_1331 : decode b_L_law 1331 = .ok (.iaload, 1) := by decide +kernel
theorem d_L_law_1332 : decode b_L_law 1332 = .ok (.invokevirtual 172, 3) := by decide +kernel
theorem d_L_law_1335 : decode b_L_law 1335 = .ok (.istore 6, 2) := by decide +kernel
theorem d_L_law_1337 : decode b_L_law 1337 = .ok (.aload_n 2, 1) := by decide +kernel
theorem d_L_law_1338 : decode b_L_law 1338 = .ok (.invokevirtual 104, 3) := by decide +kernel
theorem d_L_law_1341 : decode b_L_law 1341 = .ok (.iload 5, 2) := by decide +kernel
theorem d_L_law_1343 : decode b_L_law 1343 = .ok (.if_icmp .eq 5, 3) := by decide +kernel
theorem d_L_law_1346 : decode b_L_law 1346 = .ok (.iconst 0, 1) := by decide +kernel
theorem d_L_law_1347 : decode b_L_law 1347 = .ok (.ireturn, 1) := by decide +kernel
theorem d_L_law_1348 : decode b_L_law 1348 = .ok (.iload 5, 2) := by decide +kernel
theorem d_L_law_1350 : decode b_L_law 1350 = .ok (.ifCond .ne 15, 3) := by decide +kernel
theorem d_L_law_1353 : decode b_L_law 1353 = .ok (.aload_n 3, 1) := by decide +kernel
theorem d_L_law_1354 : decode b_L_law 1354 = .ok (.iconst 0, 1) := by decide +kernel
theorem d_L_law_1355 : decode b_L_law 1355 = .ok (.laload, 1) := by decide +kernel
theorem d_L_law_1356 : decode b_L_law 1356 = .ok (.iload 6, 2) := by decide +kernel
theorem d_L_law_1358 : decode b_L_law 1358 = .ok (.i2l, 1) := by decide +kernel
theorem d_L_law_1359 : decode b_L_law 1359 = .ok (.lcmp, 1) := by decide +kernel
theorem d_L_law_1360 : decode b_L_law 1360 = .ok (.ifCond .eq 5, 3) := by decide +kernel
theorem d_L_law_1363 : decode b_L_law 1363 = .ok (.iconst 0, 1) := by decide +kernel
theorem d_L_law_1364 : decode b_L_law 1364 = .ok (.ireturn, 1) := by decide +kernel
theorem d_L_law_1365 : decode b_L_law 1365 = .ok (.goto 295, 3) := by decide +kernel
theorem d_L_law_1368 : decode b_L_law 1368 = .ok (.aload_n 1, 1) := by decide +kernel
theorem d_L_law_1369 : decode b_L_law 1369 = .ok (.aload_n 0, 1) := by decide +kernel
theorem d_L_law_1370 : decode b_L_law 1370 = .ok (.iload 4, 2) := by decide +kernel
theorem d_L_law_1372 : decode b_L_law 1372 = .ok (.iconst 1, 1) := by decide +kernel
theorem d_L_law_1373 : decode b_L_law 1373 = .ok (.iadd, 1) := by decide +kernel
theorem d_L_law_1374 : decode b_L_law 1374 = .ok (.iaload, 1) := by decide +kernel
theorem d_L_law_1375 : decode b_L_law 1375 = .ok (.aload_n 0, 1) := by decide +kernel
theorem d_L_law_1376 : decode b_L_law 1376 = .ok (.iload 4, 2) := by decide +kernel
theorem d_L_law_1378 : decode b_L_law 1378 = .ok (.iconst 2, 1) := by decide +kernel
theorem d_L_law_1379 : decode b_L_law 1379 = .ok (.iadd, 1) := by decide +kernel
theorem d_L_law_1380 : decode b_L_law 1380 = .ok (.iaload, 1) := by decide +kernel
theorem d_L_law_1381 : decode b_L_law 1381 = .ok (.aload_n 3, 1) := by decide +kernel
theorem d_L_law_1382 : decode b_L_law 1382 = .ok (.invokestatic 173, 3) := by decide +kernel
theorem d_L_law_1385 : decode b_L_law 1385 = .ok (.istore 5, 2) := by decide +kernel
theorem d_L_law_1387 : decode b_L_law 1387 = .ok (.aload_n 2, 1) := by decide +kernel
theorem d_L_law_1388 : decode b_L_law 1388 = .ok (.aload_n 0, 1) := by decide +kernel
theorem d_L_law_1389 : decode b_L_law 1389 = .ok (.iload 4, 2) := by decide +kernel
theorem d_L_law_1391 : decode b_L_law 1391 = .ok (.iconst 1, 1) := by decide +kernel
theorem d_L_law_1392 : decode b_L_law 1392 = .ok (.iadd, 1) := by decide +kernel
theorem d_L_law_1393 : decode b_L_law 1393 = .ok (.iaload, 1) := by decide +kernel
theorem d_L_law_1394 : decode b_L_law 1394 = .ok (.aload_n 0, 1) := by decide +kernel
theorem d_L_law_1395 : decode b_L_law 1395 = .ok (.iload 4, 2) := by decide +kernel
theorem d_L_law_1397 : decode b_L_law 1397 = .ok (.iconst 2, 1) := by decide +kernel
theorem d_L_law_1398 : decode b_L_law 1398 = .ok (.iadd, 1) := by decide +kernel
theorem d_L_law_1399 : decode b_L_law 1399 = .ok (.iaload, 1) := by decide +kernel
theorem d_L_law_1400 : decode b_L_law 1400 = .ok (.invokevirtual 175, 3) := by decide +kernel
theorem d_L_law_1403 : decode b_L_law 1403 = .ok (.istore 6, 2) := by decide +kernel
theorem d_L_law_1405 : decode b_L_law 1405 = .ok (.aload_n 2, 1) := by decide +kernel
theorem d_L_law_1406 : decode b_L_law 1406 = .ok (.invokevirtual 104, 3) := by decide +kernel
theorem d_L_law_1409 : decode b_L_law 1409 = .ok (.iload 5, 2) := by decide +kernel
theorem d_L_law_1411 : decode b_L_law 1411 = .ok (.if_icmp .eq 5, 3) := by decide +kernel
theorem d_L_law_1414 : decode b_L_law 1414 = .ok (.iconst 0, 1) := by decide +kernel
theorem d_L_law_1415 : decode b_L_law 1415 = .ok (.ireturn, 1) := by decide +kernel
theorem d_L_law_1416 : decode b_L_law 1416 = .ok (.iload 5, 2) := by decide +kernel
theorem d_L_law_1418 : decode b_L_law 1418 = .ok (.ifCond .ne 15, 3) := by decide +kernel
theorem d_L_law_1421 : decode b_L_law 1421 = .ok (.aload_n 3, 1) := by decide +kernel
theorem d_L_law_1422 : decode b_L_law 1422 = .ok (.iconst 0, 1) := by decide +kernel
theorem d_L_law_1423 : decode b_L_law 1423 = .ok (.laload, 1) := by decide +kernel
theorem d_L_law_1424 : decode b_L_law 1424 = .ok (.iload 6, 2) := by decide +kernel
theorem d_L_law_1426 : decode b_L_law 1426 = .ok (.i2l, 1) := by decide +kernel
theorem d_L_law_1427 : decode b_L_law 1427 = .ok (.lcmp, 1) := by decide +kernel
theorem d_L_law_1428 : decode b_L_law 1428 = .ok (.ifCond .eq 5, 3) := by decide +kernel
theorem d_L_law_1431 : decode b_L_law 1431 = .ok (.iconst 0, 1) := by decide +kernel
theorem d_L_law_1432 : decode b_L_law 1432 = .ok (.ireturn, 1) := by decide +kernel
theorem d_L_law_1433 : decode b_L_law 1433 = .ok (.goto 227, 3) := by decide +kernel
theorem d_L_law_1436 : decode b_L_law 1436 = .ok (.aload_n 1, 1) := by decide +kernel
theorem d_L_law_1437 : decode b_L_law 1437 = .ok (.aload_n 0, 1) := by decide +kernel
theorem d_L_law_1438 : decode b_L_law 1438 = .ok (.iload 4, 2) := by decide +kernel
theorem d_L_law_1440 : decode b_L_law 1440 = .ok (.iconst 1, 1) := by decide +kernel
theorem d_L_law_1441 : decode b_L_law 1441 = .ok (.iadd, 1) := by decide +kernel
theorem d_L_law_1442 : decode b_L_law 1442 = .ok (.iaload, 1) := by decide +kernel
theorem d_L_law_1443 : decode b_L_law 1443 = .ok (.aload_n 3, 1) := by decide +kernel
theorem d_L_law_1444 : decode b_L_law 1444 = .ok (.invokestatic 176, 3) := by decide +kernel
theorem d_L_law_1447 : decode b_L_law 1447 = .ok (.istore 5, 2) := by decide +kernel
theorem d_L_law_1449 : decode b_L_law 1449 = .ok (.aload_n 2, 1) := by decide +kernel
theorem d_L_law_1450 : decode b_L_law 1450 = .ok (.aload_n 0, 1) := by decide +kernel
theorem d_L_law_1451 : decode b_L_law 1451 = .ok (.iload 4, 2) := by decide +kernel
theorem d_L_law_1453 : decode b_L_law 1453 = .ok (.iconst 1, 1) := by decide +kernel
theorem d_L_law_1454 : decode b_L_law 1454 = .ok (.iadd, 1) := by decide +kernel
theorem d_L_law_1455 : decode b_L_law 1455 = .ok (.iaload, 1) := by decide +kernel
theorem d_L_law_1456 : decode b_L_law 1456 = .ok (.invokevirtual 178, 3) := by decide +kernel
theorem d_L_law_1459 : decode b_L_law 1459 = .ok (.istore 6, 2) := by decide +kernel
theorem d_L_law_1461 : decode b_L_law 1461 = .ok (.aload_n 2, 1) := by decide +kernel
theorem d_L_law_1462 : decode b_L_law 1462 = .ok (.invokevirtual 104, 3) := by decide +kernel
theorem d_L_law_1465 : decode b_L_law 1465 = .ok (.iload 5, 2) := by decide +kernel
theorem d_L_law_1467 : decode b_L_law 1467 = .ok (.if_icmp .eq 5, 3) := by decide +kernel
theorem d_L_law_1470 : decode b_L_law 1470 = .ok (.iconst 0, 1) := by decide +kernel
theorem d_L_law_1471 : decode b_L_law 1471 = .ok (.ireturn, 1) := by decide +kernel
theorem d_L_law_1472 : decode b_L_law 1472 = .ok (.iload 5, 2) := by decide +kernel
theorem d_L_law_1474 : decode b_L_law 1474 = .ok (.ifCond .ne 15, 3) := by decide +kernel
theorem d_L_law_1477 : decode b_L_law 1477 = .ok (.aload_n 3, 1) := by decide +kernel
theorem d_L_law_1478 : decode b_L_law 1478 = .ok (.iconst 0, 1) := by decide +kernel
theorem d_L_law_1479 : decode b_L_law 1479 = .ok (.laload, 1) := by decide +kernel
theorem d_L_law_1480 : decode b_L_law 1480 = .ok (.iload 6, 2) := by decide +kernel
theorem d_L_law_1482 : decode b_L_law 1482 = .ok (.i2l, 1) := by decide +kernel
theorem d_L_law_1483 : decode b_L_law 1483 = .ok (.lcmp, 1) := by decide +kernel
theorem d_L_law_1484 : decode b_L_law 1484 = .ok (.ifCond .eq 5, 3) := by decide +kernel
theorem d_L_law_1487 : decode b_L_law 1487 = .ok (.iconst 0, 1) := by decide +kernel
theorem d_L_law_1488 : decode b_L_law 1488 = .ok (.ireturn, 1) := by decide +kernel
theorem d_L_law_1489 : decode b_L_law 1489 = .ok (.goto 171, 3) := by decide +kernel
theorem d_L_law_1492 : decode b_L_law 1492 = .ok (.aload_n 1, 1) := by decide +kernel
theorem d_L_law_1493 : decode b_L_law 1493 = .ok (.aload_n 0, 1) := by decide +kernel
theorem d_L_law_1494 : decode b_L_law 1494 = .ok (.iload 4, 2) := by decide +kernel
theorem d_L_law_1496 : decode b_L_law 1496 = .ok (.iconst 1, 1) := by decide +kernel
theorem d_L_law_1497 : decode b_L_law 1497 = .ok (.iadd, 1) := by decide +kernel
theorem d_L_law_1498 : decode b_L_law 1498 = .ok (.iaload, 1) := by decide +kernel
theorem d_L_law_1499 : decode b_L_law 1499 = .ok (.aload_n 3, 1) := by decide +kernel
theorem d_L_law_1500 : decode b_L_law 1500 = .ok (.invokestatic 179, 3) := by decide +kernel
theorem d_L_law_1503 : decode b_L_law 1503 = .ok (.istore 5, 2) := by decide +kernel
theorem d_L_law_1505 : decode b_L_law 1505 = .ok (.aload_n 2, 1) := by decide +kernel
theorem d_L_law_1506 : decode b_L_law 1506 = .ok (.aload_n 0, 1) := by decide +kernel
theorem d_L_law_1507 : decode b_L_law 1507 = .ok (.iload 4, 2) := by decide +kernel
theorem d_L_law_1509 : decode b_L_law 1509 = .ok (.iconst 1, 1) := by decide +kernel
theorem d_L_law_1510 : decode b_L_law 1510 = .ok (.iadd, 1) := by decide +kernel
theorem d_L_law_1511 : decode b_L_law 1511 = .ok (.iaload, 1) := by decide +kernel
theorem d_L_law_1512 : decode b_L_law 1512 = .ok (.invokevirtual 181, 3) := by decide +kernel
theorem d_L_law_1515 : decode b_L_law 1515 = .ok (.istore 6, 2) := by decide +kernel
theorem d_L_law_1517 : decode b_L_law 1517 = .ok (.aload_n 2, 1) := by decide +kernel
theorem d_L_law_1518 : decode b_L_law 1518 = .ok (.invokevirtual 104, 3) := by decide +kernel
theorem d_L_law_1521 : decode b_L_law 1521 = .ok (.iload 5, 2) := by decide +kernel
theorem d_L_law_1523 : decode b_L_law 1523 = .ok (.if_icmp .eq 5, 3) := by decide +kernel
theorem d_L_law_1526 : decode b_L_law 1526 = .ok (.iconst 0, 1) := by decide +kernel
theorem d_L_law_1527 : decode b_L_law 1527 = .ok (.ireturn, 1) := by decide +kernel
theorem d_L_law_1528 : decode b_L_law 1528 = .ok (.iload 5, 2) := by decide +kernel
theorem d_L_law_1530 : decode b_L_law 1530 = .ok (.ifCond .ne 15, 3) := by decide +kernel
theorem d_L_law_1533 : decode b_L_law 1533 = .ok (.aload_n 3, 1) := by decide +kernel
theorem d_L_law_1534 : decode b_L_law 1534 = .ok (.iconst 0, 1) := by decide +kernel
theorem d_L_law_1535 : decode b_L_law 1535 = .ok (.laload, 1) := by decide +kernel
theorem d_L_law_1536 : decode b_L_law 1536 = .ok (.iload 6, 2) := by decide +kernel
theorem d_L_law_1538 : decode b_L_law 1538 = .ok (.i2l, 1) := by decide +kernel
theorem d_L_law_1539 : decode b_L_law 1539 = .ok (.lcmp, 1) := by decide +kernel
theorem d_L_law_1540 : decode b_L_law 1540 = .ok (.ifCond .eq 5, 3) := by decide +kernel
theorem d_L_law_1543 : decode b_L_law 1543 = .ok (.iconst 0, 1) := by decide +kernel
theorem d_L_law_1544 : decode b_L_law 1544 = .ok (.ireturn, 1) := by decide +kernel
theorem d_L_law_1545 : decode b_L_law 1545 = .ok (.goto 115, 3) := by decide +kernel
theorem d_L_law_1548 : decode b_L_law 1548 = .ok (.aload_n 1, 1) := by decide +kernel
theorem d_L_law_1549 : decode b_L_law 1549 = .ok (.aload_n 0, 1) := by decide +kernel
theorem d_L_law_1550 : decode b_L_law 1550 = .ok (.iload 4, 2) := by decide +kernel
theorem d_L_law_1552 : decode b_L_law 1552 = .ok (.iconst 1, 1) := by decide +kernel
theorem d_L_law_1553 : decode b_L_law 1553 = .ok (.iadd, 1) := by decide +kernel
theorem d_L_law_1554 : decode b_L_law 1554 = .ok (.iaload, 1) := by decide +kernel
theorem d_L_law_1555 : decode b_L_law 1555 = .ok (.aload_n 3, 1) := by decide +kernel
theorem d_L_law_1556 : decode b_L_law 1556 = .ok (.invokestatic 182, 3) := by decide +kernel
theorem d_L_law_1559 : decode b_L_law 1559 = .ok (.istore 5, 2) := by decide +kernel
theorem d_L_law_1561 : decode b_L_law 1561 = .ok (.aload_n 2, 1) := by decide +kernel
theorem d_L_law_1562 : decode b_L_law 1562 = .ok (.aload_n 0, 1) := by decide +kernel
theorem d_L_law_1563 : decode b_L_law 1563 = .ok (.iload 4, 2) := by decide +kernel
theorem d_L_law_1565 : decode b_L_law 1565 = .ok (.iconst 1, 1) := by decide +kernel
theorem d_L_law_1566 : decode b_L_law 1566 = .ok (.iadd, 1) := by decide +kernel
theorem d_L_law_1567 : decode b_L_law 1567 = .ok (.iaload, 1) := by decide +kernel
theorem d_L_law_1568 : decode b_L_law 1568 = .ok (.invokevirtual 184, 3) := by decide +kernel
theorem d_L_law_1571 : decode b_L_law 1571 = .ok (.istore 6, 2) := by decide +kernel
theorem d_L_law_1573 : decode b_L_law 1573 = .ok (.aload_n 2, 1) := by decide +kernel
theorem d_L_law_1574 : decode b_L_law 1574 = .ok (.invokevirtual 104, 3) := by decide +kernel
theorem d_L_law_1577 : decode b_L_law 1577 = .ok (.iload 5, 2) := by decide +kernel
theorem d_L_law_1579 : decode b_L_law 1579 = .ok (.if_icmp .eq 5, 3) := by decide +kernel
theorem d_L_law_1582 : decode b_L_law 1582 = .ok (.iconst 0, 1) := by decide +kernel
theorem d_L_law_1583 : decode b_L_law 1583 = .ok (.ireturn, 1) := by decide +kernel
theorem d_L_law_1584 : decode b_L_law 1584 = .ok (.iload 5, 2) := by decide +kernel
theorem d_L_law_1586 : decode b_L_law 1586 = .ok (.ifCond .ne 15, 3) := by decide +kernel
theorem d_L_law_1589 : decode b_L_law 1589 = .ok (.aload_n 3, 1) := by decide +kernel
theorem d_L_law_1590 : decode b_L_law 1590 = .ok (.iconst 0, 1) := by decide +kernel
theorem d_L_law_1591 : decode b_L_law 1591 = .ok (.laload, 1) := by decide +kernel
theorem d_L_law_1592 : decode b_L_law 1592 = .ok (.iload 6, 2) := by decide +kernel
theorem d_L_law_1594 : decode b_L_law 1594 = .ok (.i2l, 1) := by decide +kernel
theorem d_L_law_1595 : decode b_L_law 1595 = .ok (.lcmp, 1) := by decide +kernel
theorem d_L_law_1596 : decode b_L_law 1596 = .ok (.ifCond .eq 5, 3) := by decide +kernel
theorem d_L_law_1599 : decode b_L_law 1599 = .ok (.iconst 0, 1) := by decide +kernel
theorem d_L_law_1600 : decode b_L_law 1600 = .ok (.ireturn, 1) := by decide +kernel
theorem d_L_law_1601 : decode b_L_law 1601 = .ok (.goto 59, 3) := by decide +kernel
theorem d_L_law_1604 : decode b_L_law 1604 = .ok (.aload_n 1, 1) := by decide +kernel
theorem d_L_law_1605 : decode b_L_law 1605 = .ok (.aload_n 0, 1) := by decide +kernel
theorem d_L_law_1606 : decode b_L_law 1606 = .ok (.iload 4, 2) := by decide +kernel
theorem d_L_law_1608 : decode b_L_law 1608 = .ok (.iconst 1, 1) := by decide +kernel
theorem d_L_law_1609 : decode b_L_law 1609 = .ok (.iadd, 1) := by decide +kernel
theorem d_L_law_1610 : decode b_L_law 1610 = .ok (.iaload, 1) := by decide +kernel
theorem d_L_law_1611 : decode b_L_law 1611 = .ok (.aload_n 3, 1) := by decide +kernel
theorem d_L_law_1612 : decode b_L_law 1612 = .ok (.invokestatic 185, 3) := by decide +kernel
theorem d_L_law_1615 : decode b_L_law 1615 = .ok (.istore 5, 2) := by decide +kernel
theorem d_L_law_1617 : decode b_L_law 1617 = .ok (.aload_n 2, 1) := by decide +kernel
theorem d_L_law_1618 : decode b_L_law 1618 = .ok (.aload_n 0, 1) := by decide +kernel
theorem d_L_law_1619 : decode b_L_law 1619 = .ok (.iload 4, 2) := by decide +kernel
theorem d_L_law_1621 : decode b_L_law 1621 = .ok (.iconst 1, 1) := by decide +kernel
theorem d_L_law_1622 : decode b_L_law 1622 = .ok (.iadd, 1) := by decide +kernel
theorem d_L_law_1623 : decode b_L_law 1623 = .ok (.iaload, 1) := by decide +kernel
theorem d_L_law_1624 : decode b_L_law 1624 = .ok (.invokevirtual 187, 3) := by decide +kernel
theorem d_L_law_1627 : decode b_L_law 1627 = .ok (.istore 6, 2) := by decide +kernel
theorem d_L_law_1629 : decode b_L_law 1629 = .ok (.aload_n 2, 1) := by decide +kernel
theorem d_L_law_1630 : decode b_L_law 1630 = .ok (.invokevirtual 104, 3) := by decide +kernel
theorem d_L_law_1633 : decode b_L_law 1633 = .ok (.iload 5, 2) := by decide +kernel
theorem d_L_law_1635 : decode b_L_law 1635 = .ok (.if_icmp .eq 5, 3) := by decide +kernel
theorem d_L_law_1638 : decode b_L_law 1638 = .ok (.iconst 0, 1) := by decide +kernel
theorem d_L_law_1639 : decode b_L_law 1639 = .ok (.ireturn, 1) := by decide +kernel
theorem d_L_law_1640 : decode b_L_law 1640 = .ok (.iload 5, 2) := by decide +kernel
theorem d_L_law_1642 : decode b_L_law 1642 = .ok (.ifCond .ne 15, 3) := by decide +kernel
theorem d_L_law_1645 : decode b_L_law 1645 = .ok (.aload_n 3, 1) := by decide +kernel
theorem d_L_law_1646 : decode b_L_law 1646 = .ok (.iconst 0, 1) := by decide +kernel
theorem d_L_law_1647 : decode b_L_law 1647 = .ok (.laload, 1) := by decide +kernel
theorem d_L_law_1648 : decode b_L_law 1648 = .ok (.iload 6, 2) := by decide +kernel
theorem d_L_law_1650 : decode b_L_law 1650 = .ok (.i2l, 1) := by decide +kernel
theorem d_L_law_1651 : decode b_L_law 1651 = .ok (.lcmp, 1) := by decide +kernel
theorem d_L_law_1652 : decode b_L_law 1652 = .ok (.ifCond .eq 5, 3) := by decide +kernel
theorem d_L_law_1655 : decode b_L_law 1655 = .ok (.iconst 0, 1) := by decide +kernel
theorem d_L_law_1656 : decode b_L_law 1656 = .ok (.ireturn, 1) := by decide +kernel
theorem d_L_law_1657 : decode b_L_law 1657 = .ok (.goto 3, 3) := by decide +kernel
theorem d_L_law_1660 : decode b_L_law 1660 = .ok (.iinc 4 4, 3) := by decide +kernel
theorem d_L_law_1663 : decode b_L_law 1663 = .ok (.goto (-1640), 3) := by decide +kernel
theorem d_L_law_1666 : decode b_L_law 1666 = .ok (.iconst 1, 1) := by decide +kernel
theorem d_L_law_1667 : decode b_L_law 1667 = .ok (.ireturn, 1) := by decide +kernel
end
section
theorem d_M_init_0 : decode b_M_init 0 = .ok (.aload_n 0, 1) := by decide +kernel
theorem d_M_init_1 : decode b_M_init 1 = .ok (.invokespecial 1, 3) := by decide +kernel
theorem d_M_init_4 : decode b_M_init 4 = .ok (.aload_n 0, 1) := by decide +kernel
theorem d_M_init_5 : decode b_M_init 5 = .ok (.bipush 24, 2) := by decide +kernel
theorem d_M_init_7 : decode b_M_init 7 = .ok (.newarray .byte, 2) := by decide +kernel
theorem d_M_init_9 : decode b_M_init 9 = .ok (.putfield 7, 3) := by decide +kernel
theorem d_M_init_12 : decode b_M_init 12 = .ok (.aload_n 0, 1) := by decide +kernel
theorem d_M_init_13 : decode b_M_init 13 = .ok (.sipush 1440, 3) := by decide +kernel
theorem d_M_init_16 : decode b_M_init 16 = .ok (.newarray .byte, 2) := by decide +kernel
theorem d_M_init_18 : decode b_M_init 18 = .ok (.putfield 13, 3) := by decide +kernel
theorem d_M_init_21 : decode b_M_init 21 = .ok (.aload_n 0, 1) := by decide +kernel
theorem d_M_init_22 : decode b_M_init 22 = .ok (.bipush 60, 2) := by decide +kernel
theorem d_M_init_24 : decode b_M_init 24 = .ok (.newarray .int, 2) := by decide +kernel
theorem d_M_init_26 : decode b_M_init 26 = .ok (.putfield 16, 3) := by decide +kernel
theorem d_M_init_29 : decode b_M_init 29 = .ok (.aload_n 0, 1) := by decide +kernel
theorem d_M_init_30 : decode b_M_init 30 = .ok (.bipush 60, 2) := by decide +kernel
theorem d_M_init_32 : decode b_M_init 32 = .ok (.newarray .int, 2) := by decide +kernel
theorem d_M_init_34 : decode b_M_init 34 = .ok (.putfield 20, 3) := by decide +kernel
theorem d_M_init_37 : decode b_M_init 37 = .ok (.aload_n 0, 1) := by decide +kernel
theorem d_M_init_38 : decode b_M_init 38 = .ok (.bipush 60, 2) := by decide +kernel
theorem d_M_init_40 : decode b_M_init 40 = .ok (.newarray .int, 2) := by decide +kernel
theorem d_M_init_42 : decode b_M_init 42 = .ok (.putfield 23, 3) := by decide +kernel
theorem d_M_init_45 : decode b_M_init 45 = .ok (.aload_n 0, 1) := by decide +kernel
theorem d_M_init_46 : decode b_M_init 46 = .ok (.bipush 60, 2) := by decide +kernel
theorem d_M_init_48 : decode b_M_init 48 = .ok (.newarray .int, 2) := by decide +kernel
theorem d_M_init_50 : decode b_M_init 50 = .ok (.putfield 26, 3) := by decide +kernel
theorem d_M_init_53 : decode b_M_init 53 = .ok (.aload_n 0, 1) := by decide +kernel
theorem d_M_init_54 : decode b_M_init 54 = .ok (.bipush 120, 2) := by decide +kernel
theorem d_M_init_56 : decode b_M_init 56 = .ok (.newarray .int, 2) := by decide +kernel
theorem d_M_init_58 : decode b_M_init 58 = .ok (.putfield 29, 3) := by decide +kernel
theorem d_M_init_61 : decode b_M_init 61 = .ok (.aload_n 0, 1) := by decide +kernel
theorem d_M_init_62 : decode b_M_init 62 = .ok (.bipush 40, 2) := by decide +kernel
theorem d_M_init_64 : decode b_M_init 64 = .ok (.newarray .int, 2) := by decide +kernel
theorem d_M_init_66 : decode b_M_init 66 = .ok (.putfield 32, 3) := by decide +kernel
theorem d_M_init_69 : decode b_M_init 69 = .ok (.aload_n 0, 1) := by decide +kernel
theorem d_M_init_70 : decode b_M_init 70 = .ok (.bipush 80, 2) := by decide +kernel
theorem d_M_init_72 : decode b_M_init 72 = .ok (.newarray .byte, 2) := by decide +kernel
theorem d_M_init_74 : decode b_M_init 74 = .ok (.putfield 35, 3) := by decide +kernel
theorem d_M_init_77 : decode b_M_init 77 = .ok (.aload_n 0, 1) := by decide +kernel
theorem d_M_init_78 : decode b_M_init 78 = .ok (.iconst 3, 1) := by decide +kernel
theorem d_M_init_79 : decode b_M_init 79 = .ok (.newarray .int, 2) := by decide +kernel
theorem d_M_init_81 : decode b_M_init 81 = .ok (.dup, 1) := by decide +kernel
theorem d_M_init_82 : decode b_M_init 82 = .ok (.iconst 0, 1) := by decide +kernel
theorem d_M_init_83 : decode b_M_init 83 = .ok (.iconst 0, 1) := by decide +kernel
theorem d_M_init_84 : decode b_M_init 84 = .ok (.iastore, 1) := by decide +kernel
theorem d_M_init_85 : decode b_M_init 85 = .ok (.dup, 1) := by decide +kernel
theorem d_M_init_86 : decode b_M_init 86 = .ok (.iconst 1, 1) := by decide +kernel
theorem d_M_init_87 : decode b_M_init 87 = .ok (.iconst (-1), 1) := by decide +kernel
theorem d_M_init_88 : decode b_M_init 88 = .ok (.iastore, 1) := by decide +kernel
theorem d_M_init_89 : decode b_M_init 89 = .ok (.dup, 1) := by decide +kernel
theorem d_M_init_90 : decode b_M_init 90 = .ok (.iconst 2, 1) := by decide +kernel
theorem d_M_init_91 : decode b_M_init 91 = .ok (.iconst (-1), 1) := by decide +kernel
theorem d_M_init_92 : decode b_M_init 92 = .ok (.iastore, 1) := by decide +kernel
theorem d_M_init_93 : decode b_M_init 93 = .ok (.putfield 38, 3) := by decide +kernel
theorem d_M_init_96 : decode b_M_init 96 = .ok (.aload_n 0, 1) := by decide +kernel
theorem d_M_init_97 : decode b_M_init 97 = .ok (.bipush 64, 2) := by decide +kernel
theorem d_M_init_99 : decode b_M_init 99 = .ok (.newarray .byte, 2) := by decide +kernel
theorem d_M_init_101 : decode b_M_init 101 = .ok (.putfield 41, 3) := by decide +kernel
theorem d_M_init_104 : decode b_M_init 104 = .ok (.aload_n 0, 1) := by decide +kernel
theorem d_M_init_105 : decode b_M_init 105 = .ok (.bipush 25, 2) := by decide +kernel
theorem d_M_init_107 : decode b_M_init 107 = .ok (.newarray .int, 2) := by decide +kernel
theorem d_M_init_109 : decode b_M_init 109 = .ok (.putfield 44, 3) := by decide +kernel
theorem d_M_init_112 : decode b_M_init 112 = .ok (.return_, 1) := by decide +kernel
theorem d_M_thrown_0 : decode b_M_thrown 0 = .ok (.aload_n 0, 1) := by decide +kernel
theorem d_M_thrown_1 : decode b_M_thrown 1 = .ok (.getfield 47, 3) := by decide +kernel
theorem d_M_thrown_4 : decode b_M_thrown 4 = .ok (.ireturn, 1) := by decide +kernel
theorem d_M_refuses_0 : decode b_M_refuses 0 = .ok (.aload_n 0, 1) := by decide +kernel
theorem d_M_refuses_1 : decode b_M_refuses 1 = .ok (.iload_n 1, 1) := by decide +kernel
theorem d_M_refuses_2 : decode b_M_refuses 2 = .ok (.putfield 47, 3) := by decide +kernel
theorem d_M_refuses_5 : decode b_M_refuses 5 = .ok (.iload_n 1, 1) := by decide +kernel
theorem d_M_refuses_6 : decode b_M_refuses 6 = .ok (.ifCond .eq 7, 3) := by decide +kernel
theorem d_M_refuses_9 : decode b_M_refuses 9 = .ok (.iconst 1, 1) := by decide +kernel
theorem d_M_refuses_10 : decode b_M_refuses 10 = .ok (.goto 4, 3) := by decide +kernel
theorem d_M_refuses_13 : decode b_M_refuses 13 = .ok (.iconst 0, 1) := by decide +kernel
theorem d_M_refuses_14 : decode b_M_refuses 14 = .ok (.ireturn, 1) := by decide +kernel
theorem d_M_no_0 : decode b_M_no 0 = .ok (.iload_n 1, 1) := by decide +kernel
theorem d_M_no_1 : decode b_M_no 1 = .ok (.ifCond .lt 11, 3) := by decide +kernel
theorem d_M_no_4 : decode b_M_no 4 = .ok (.iload_n 1, 1) := by decide +kernel
theorem d_M_no_5 : decode b_M_no 5 = .ok (.aload_n 0, 1) := by decide +kernel
theorem d_M_no_6 : decode b_M_no 6 = .ok (.getfield 51, 3) := by decide +kernel
theorem d_M_no_9 : decode b_M_no 9 = .ok (.if_icmp .lt 7, 3) := by decide +kernel
theorem d_M_no_12 : decode b_M_no 12 = .ok (.iconst 1, 1) := by decide +kernel
theorem d_M_no_13 : decode b_M_no 13 = .ok (.goto 4, 3) := by decide +kernel
theorem d_M_no_16 : decode b_M_no 16 = .ok (.iconst 0, 1) := by decide +kernel
theorem d_M_no_17 : decode b_M_no 17 = .ok (.ireturn, 1) := by decide +kernel
theorem d_M_clashes_0 : decode b_M_clashes 0 = .ok (.aload_n 0, 1) := by decide +kernel
theorem d_M_clashes_1 : decode b_M_clashes 1 = .ok (.getfield 38, 3) := by decide +kernel
theorem d_M_clashes_4 : decode b_M_clashes 4 = .ok (.iconst 0, 1) := by decide +kernel
theorem d_M_clashes_5 : decode b_M_clashes 5 = .ok (.iload_n 1, 1) := by decide +kernel
theorem d_M_clashes_6 : decode b_M_clashes 6 = .ok (.iastore, 1) := by decide +kernel
theorem d_M_clashes_7 : decode b_M_clashes 7 = .ok (.aload_n 0, 1) := by decide +kernel
theorem d_M_clashes_8 : decode b_M_clashes 8 = .ok (.getfield 38, 3) := by decide +kernel
theorem d_M_clashes_11 : decode b_M_clashes 11 = .ok (.iconst 1, 1) := by decide +kernel
theorem d_M_clashes_12 : decode b_M_clashes 12 = .ok (.iload_n 2, 1) := by decide +kernel
theorem d_M_clashes_13 : decode b_M_clashes 13 = .ok (.iastore, 1) := by decide +kernel
theorem d_M_clashes_14 : decode b_M_clashes 14 = .ok (.aload_n 0, 1) := by decide +kernel
theorem d_M_clashes_15 : decode b_M_clashes 15 = .ok (.getfield 38, 3) := by decide +kernel
theorem d_M_clashes_18 : decode b_M_clashes 18 = .ok (.iconst 2, 1) := by decide +kernel
theorem d_M_clashes_19 : decode b_M_clashes 19 = .ok (.iload_n 3, 1) := by decide +kernel
theorem d_M_clashes_20 : decode b_M_clashes 20 = .ok (.iastore, 1) := by decide +kernel
theorem d_M_clashes_21 : decode b_M_clashes 21 = .ok (.return_, 1) := by decide +kernel
theorem d_M_at_0 : decode b_M_at 0 = .ok (.aload_n 0, 1) := by decide +kernel
theorem d_M_at_1 : decode b_M_at 1 = .ok (.getfield 13, 3) := by decide +kernel
theorem d_M_at_4 : decode b_M_at 4 = .ok (.bipush 24, 2) := by decide +kernel
theorem d_M_at_6 : decode b_M_at 6 = .ok (.iload_n 1, 1) := by decide +kernel
theorem d_M_at_7 : decode b_M_at 7 = .ok (.imul, 1) := by decide +kernel
theorem d_M_at_8 : decode b_M_at 8 = .ok (.iload_n 2, 1) := by decide +kernel
theorem d_M_at_9 : decode b_M_at 9 = .ok (.iadd, 1) := by decide +kernel
theorem d_M_at_10 : decode b_M_at 10 = .ok (.baload, 1) := by decide +kernel
theorem d_M_at_11 : decode b_M_at 11 = .ok (.ireturn, 1) := by decide +kernel
theorem d_M_type_0 : decode b_M_type 0 = .ok (.aload_n 0, 1) := by decide +kernel
theorem d_M_type_1 : decode b_M_type 1 = .ok (.iload_n 1, 1) := by decide +kernel
theorem d_M_type_2 : decode b_M_type 2 = .ok (.bipush 33, 2) := by decide +kernel
theorem d_M_type_4 : decode b_M_type 4 = .ok (.if_icmp .lt 9, 3) := by decide +kernel
theorem d_M_type_7 : decode b_M_type 7 = .ok (.iload_n 1, 1) := by decide +kernel
theorem d_M_type_8 : decode b_M_type 8 = .ok (.bipush 126, 2) := by decide +kernel
theorem d_M_type_10 : decode b_M_type 10 = .ok (.if_icmp .le 7, 3) := by decide +kernel
theorem d_M_type_13 : decode b_M_type 13 = .ok (.iconst 1, 1) := by decide +kernel
theorem d_M_type_14 : decode b_M_type 14 = .ok (.goto 17, 3) := by decide +kernel
theorem d_M_type_17 : decode b_M_type 17 = .ok (.aload_n 0, 1) := by decide +kernel
theorem d_M_type_18 : decode b_M_type 18 = .ok (.getfield 54, 3) := by decide +kernel
theorem d_M_type_21 : decode b_M_type 21 = .ok (.bipush 24, 2) := by decide +kernel
theorem d_M_type_23 : decode b_M_type 23 = .ok (.if_icmp .ne 7, 3) := by decide +kernel
theorem d_M_type_26 : decode b_M_type 26 = .ok (.iconst 2, 1) := by decide +kernel
theorem d_M_type_27 : decode b_M_type 27 = .ok (.goto 4, 3) := by decide +kernel
theorem d_M_type_30 : decode b_M_type 30 = .ok (.iconst 0, 1) := by decide +kernel
theorem d_M_type_31 : decode b_M_type 31 = .ok (.invokevirtual 57, 3) := by decide +kernel
theorem d_M_type_34 : decode b_M_type 34 = .ok (.ifCond .eq 5, 3) := by decide +kernel
theorem d_M_type_37 : decode b_M_type 37 = .ok (.iconst 0, 1) := by decide +kernel
theorem d_M_type_38 : decode b_M_type 38 = .ok (.ireturn, 1) := by decide +kernel
theorem d_M_type_39 : decode b_M_type 39 = .ok (.aload_n 0, 1) := by decide +kernel
theorem d_M_type_40 : decode b_M_type 40 = .ok (.getfield 7, 3) := by decide +kernel
theorem d_M_type_43 : decode b_M_type 43 = .ok (.aload_n 0, 1) := by decide +kernel
theorem d_M_type_44 : decode b_M_type 44 = .ok (.dup, 1) := by decide +kernel
theorem d_M_type_45 : decode b_M_type 45 = .ok (.getfield 54, 3) := by decide +kernel
theorem d_M_type_48 : decode b_M_type 48 = .ok (.dup_x1, 1) := by decide +kernel
theorem d_M_type_49 : decode b_M_type 49 = .ok (.iconst 1, 1) := by decide +kernel
theorem d_M_type_50 : decode b_M_type 50 = .ok (.iadd, 1) := by decide +kernel
theorem d_M_type_51 : decode b_M_type 51 = .ok (.putfield 54, 3) := by decide +kernel
theorem d_M_type_54 : decode b_M_type 54 = .ok (.iload_n 1, 1) := by decide +kernel
theorem d_M_type_55 : decode b_M_type 55 = .ok (.i2b, 1) := by decide +kernel
theorem d_M_type_56 : decode b_M_type 56 = .ok (.bastore, 1) := by decide +kernel
theorem d_M_type_57 : decode b_M_type 57 = .ok (.aload_n 0, 1) := by decide +kernel
theorem d_M_type_58 : decode b_M_type 58 = .ok (.getfield 54, 3) := by decide +kernel
theorem d_M_type_61 : decode b_M_type 61 = .ok (.ireturn, 1) := by decide +kernel
theorem d_M_clear_0 : decode b_M_clear 0 = .ok (.aload_n 0, 1) := by decide +kernel
theorem d_M_clear_1 : decode b_M_clear 1 = .ok (.iconst 0, 1) := by decide +kernel
theorem d_M_clear_2 : decode b_M_clear 2 = .ok (.putfield 47, 3) := by decide +kernel
theorem d_M_clear_5 : decode b_M_clear 5 = .ok (.aload_n 0, 1) := by decide +kernel
theorem d_M_clear_6 : decode b_M_clear 6 = .ok (.getfield 54, 3) := by decide +kernel
theorem d_M_clear_9 : decode b_M_clear 9 = .ok (.istore_n 1, 1) := by decide +kernel
theorem d_M_clear_10 : decode b_M_clear 10 = .ok (.aload_n 0, 1) := by decide +kernel
theorem d_M_clear_11 : decode b_M_clear 11 = .ok (.iconst 0, 1) := by decide +kernel
theorem d_M_clear_12 : decode b_M_clear 12 = .ok (.putfield 54, 3) := by decide +kernel
theorem d_M_clear_15 : decode b_M_clear 15 = .ok (.iload_n 1, 1) := by decide +kernel
theorem d_M_clear_16 : decode b_M_clear 16 = .ok (.ireturn, 1) := by decide +kernel
theorem d_M_begin_0 : decode b_M_begin 0 = .ok (.aload_n 0, 1) := by decide +kernel
theorem d_M_begin_1 : decode b_M_begin 1 = .ok (.iconst 0, 1) := by decide +kernel
theorem d_M_begin_2 : decode b_M_begin 2 = .ok (.putfield 61, 3) := by decide +kernel
theorem d_M_begin_5 : decode b_M_begin 5 = .ok (.return_, 1) := by decide +kernel
theorem d_M_makes_0 : decode b_M_makes 0 = .ok (.aload_n 0, 1) := by decide +kernel
theorem d_M_makes_1 : decode b_M_makes 1 = .ok (.getfield 61, 3) := by decide +kernel
theorem d_M_makes_4 : decode b_M_makes 4 = .ok (.bipush 64, 2) := by decide +kernel
theorem d_M_makes_6 : decode b_M_makes 6 = .ok (.if_icmp .ge 21, 3) := by decide +kernel
theorem d_M_makes_9 : decode b_M_makes 9 = .ok (.aload_n 0, 1) := by decide +kernel
theorem d_M_makes_10 : decode b_M_makes 10 = .ok (.getfield 41, 3) := by decide +kernel
theorem d_M_makes_13 : decode b_M_makes 13 = .ok (.aload_n 0, 1) := by decide +kernel
theorem d_M_makes_14 : decode b_M_makes 14 = .ok (.dup, 1) := by decide +kernel
theorem d_M_makes_15 : decode b_M_makes 15 = .ok (.getfield 61, 3) := by decide +kernel
theorem d_M_makes_18 : decode b_M_makes 18 = .ok (.dup_x1, 1) := by decide +kernel
theorem d_M_makes_19 : decode b_M_makes 19 = .ok (.iconst 1, 1) := by decide +kernel
theorem d_M_makes_20 : decode b_M_makes 20 = .ok (.iadd, 1) := by decide +kernel
theorem d_M_makes_21 : decode b_M_makes 21 = .ok (.putfield 61, 3) := by decide +kernel
theorem d_M_makes_24 : decode b_M_makes 24 = .ok (.iload_n 1, 1) := by decide +kernel
theorem d_M_makes_25 : decode b_M_makes 25 = .ok (.i2b, 1) := by decide +kernel
theorem d_M_makes_26 : decode b_M_makes 26 = .ok (.bastore, 1) := by decide +kernel
theorem d_M_makes_27 : decode b_M_makes 27 = .ok (.return_, 1) := by decide +kernel
theorem d_M_found_0 : decode b_M_found 0 = .ok (.iconst 0, 1) := by decide +kernel
theorem d_M_found_1 : decode b_M_found 1 = .ok (.istore_n 1, 1) := by decide +kernel
theorem d_M_found_2 : decode b_M_found 2 = .ok (.iload_n 1, 1) := by decide +kernel
theorem d_M_found_3 : decode b_M_found 3 = .ok (.aload_n 0, 1) := by decide +kernel
theorem d_M_found_4 : decode b_M_found 4 = .ok (.getfield 51, 3) := by decide +kernel
theorem d_M_found_7 : decode b_M_found 7 = .ok (.if_icmp .ge 75, 3) := by decide +kernel
theorem d_M_found_10 : decode b_M_found 10 = .ok (.aload_n 0, 1) := by decide +kernel
theorem d_M_found_11 : decode b_M_found 11 = .ok (.getfield 16, 3) := by decide +kernel
theorem d_M_found_14 : decode b_M_found 14 = .ok (.iload_n 1, 1) := by decide +kernel
theorem d_M_found_15 : decode b_M_found 15 = .ok (.iaload, 1) := by decide +kernel
theorem d_M_found_16 : decode b_M_found 16 = .ok (.aload_n 0, 1) := by decide +kernel
theorem d_M_found_17 : decode b_M_found 17 = .ok (.getfield 61, 3) := by decide +kernel
theorem d_M_found_20 : decode b_M_found 20 = .ok (.if_icmp .ne 7, 3) := by decide +kernel
theorem d_M_found_23 : decode b_M_found 23 = .ok (.iconst 1, 1) := by decide +kernel
theorem d_M_found_24 : decode b_M_found 24 = .ok (.goto 4, 3) := by decide +kernel
theorem d_M_found_27 : decode b_M_found 27 = .ok (.iconst 0, 1) := by decide +kernel
theorem d_M_found_28 : decode b_M_found 28 = .ok (.istore_n 2, 1) := by decide +kernel
theorem d_M_found_29 : decode b_M_found 29 = .ok (.iconst 0, 1) := by decide +kernel
theorem d_M_found_30 : decode b_M_found 30 = .ok (.istore_n 3, 1) := by decide +kernel
theorem d_M_found_31 : decode b_M_found 31 = .ok (.iload_n 3, 1) := by decide +kernel
theorem d_M_found_32 : decode b_M_found 32 = .ok (.aload_n 0, 1) := by decide +kernel
theorem d_M_found_33 : decode b_M_found 33 = .ok (.getfield 61, 3) := by decide +kernel
theorem d_M_found_36 : decode b_M_found 36 = .ok (.if_icmp .ge 34, 3) := by decide +kernel
theorem d_M_found_39 : decode b_M_found 39 = .ok (.iload_n 2, 1) := by decide +kernel
theorem d_M_found_40 : decode b_M_found 40 = .ok (.ifCond .eq 30, 3) := by decide +kernel
theorem d_M_found_43 : decode b_M_found 43 = .ok (.aload_n 0, 1) := by decide +kernel
theorem d_M_found_44 : decode b_M_found 44 = .ok (.iload_n 1, 1) := by decide +kernel
theorem d_M_found_45 : decode b_M_found 45 = .ok (.iload_n 3, 1) := by decide +kernel
theorem d_M_found_46 : decode b_M_found 46 = .ok (.invokevirtual 64, 3) := by decide +kernel
theorem d_M_found_49 : decode b_M_found 49 = .ok (.aload_n 0, 1) := by decide +kernel
theorem d_M_found_50 : decode b_M_found 50 = .ok (.getfield 41, 3) := by decide +kernel
theorem d_M_found_53 : decode b_M_found 53 = .ok (.iload_n 3, 1) := by decide +kernel
theorem d_M_found_54 : decode b_M_found 54 = .ok (.baload, 1) := by decide +kernel
theorem d_M_found_55 : decode b_M_found 55 = .ok (.if_icmp .ne 7, 3) := by decide +kernel
theorem d_M_found_58 : decode b_M_found 58 = .ok (.iconst 1, 1) := by decide +kernel
theorem d_M_found_59 : decode b_M_found 59 = .ok (.goto 4, 3) := by decide +kernel
theorem d_M_found_62 : decode b_M_found 62 = .ok (.iconst 0, 1) := by decide +kernel
theorem d_M_found_63 : decode b_M_found 63 = .ok (.istore_n 2, 1) := by decide +kernel
theorem d_M_found_64 : decode b_M_found 64 = .ok (.iinc 3 1, 3) := by decide +kernel
theorem d_M_found_67 : decode b_M_found 67 = .ok (.goto (-36), 3) := by decide +kernel
theorem d_M_found_70 : decode b_M_found 70 = .ok (.iload_n 2, 1) := by decide +kernel
theorem d_M_found_71 : decode b_M_found 71 = .ok (.ifCond .eq 5, 3) := by decide +kernel
theorem d_M_found_74 : decode b_M_found 74 = .ok (.iload_n 1, 1) := by decide +kernel
theorem d_M_found_75 : decode b_M_found 75 = .ok (.ireturn, 1) := by decide +kernel
theorem d_M_found_76 : decode b_M_found 76 = .ok (.iinc 1 1, 3) := by decide +kernel
theorem d_M_found_79 : decode b_M_found 79 = .ok (.goto (-77), 3) := by decide +kernel
theorem d_M_found_82 : decode b_M_found 82 = .ok (.iconst (-1), 1) := by decide +kernel
theorem d_M_found_83 : decode b_M_found 83 = .ok (.ireturn, 1) := by decide +kernel
theorem d_M_comes_0 : decode b_M_comes 0 = .ok (.aload_n 0, 1) := by decide +kernel
theorem d_M_comes_1 : decode b_M_comes 1 = .ok (.invokevirtual 68, 3) := by decide +kernel
theorem d_M_comes_4 : decode b_M_comes 4 = .ok (.istore_n 1, 1) := by decide +kernel
theorem d_M_comes_5 : decode b_M_comes 5 = .ok (.iload_n 1, 1) := by decide +kernel
theorem d_M_comes_6 : decode b_M_comes 6 = .ok (.ifCond .lt 5, 3) := by decide +kernel
theorem d_M_comes_9 : decode b_M_comes 9 = .ok (.iload_n 1, 1) := by decide +kernel
theorem d_M_comes_10 : decode b_M_comes 10 = .ok (.ireturn, 1) := by decide +kernel
theorem d_M_comes_11 : decode b_M_comes 11 = .ok (.iconst 0, 1) := by decide +kernel
theorem d_M_comes_12 : decode b_M_comes 12 = .ok (.istore_n 2, 1) := by decide +kernel
theorem d_M_comes_13 : decode b_M_comes 13 = .ok (.iload_n 2, 1) := by decide +kernel
theorem d_M_comes_14 : decode b_M_comes 14 = .ok (.aload_n 0, 1) := by decide +kernel
theorem d_M_comes_15 : decode b_M_comes 15 = .ok (.getfield 61, 3) := by decide +kernel
theorem d_M_comes_18 : decode b_M_comes 18 = .ok (.if_icmp .ge 29, 3) := by decide +kernel
theorem d_M_comes_21 : decode b_M_comes 21 = .ok (.aload_n 0, 1) := by decide +kernel
theorem d_M_comes_22 : decode b_M_comes 22 = .ok (.getfield 13, 3) := by decide +kernel
theorem d_M_comes_25 : decode b_M_comes 25 = .ok (.bipush 24, 2) := by decide +kernel
theorem d_M_comes_27 : decode b_M_comes 27 = .ok (.aload_n 0, 1) := by decide +kernel
theorem d_M_comes_28 : decode b_M_comes 28 = .ok (.getfield 51, 3) := by decide +kernel
theorem d_M_comes_31 : decode b_M_comes 31 = .ok (.imul, 1) := by decide +kernel
theorem d_M_comes_32 : decode b_M_comes 32 = .ok (.iload_n 2, 1) := by decide +kernel
theorem d_M_comes_33 : decode b_M_comes 33 = .ok (.iadd, 1) := by decide +kernel
theorem d_M_comes_34 : decode b_M_comes 34 = .ok (.aload_n 0, 1) := by decide +kernel
theorem d_M_comes_35 : decode b_M_comes 35 = .ok (.getfield 41, 3) := by decide +kernel
theorem d_M_comes_38 : decode b_M_comes 38 = .ok (.iload_n 2, 1) := by decide +kernel
theorem d_M_comes_39 : decode b_M_comes 39 = .ok (.baload, 1) := by decide +kernel
theorem d_M_comes_40 : decode b_M_comes 40 = .ok (.bastore, 1) := by decide +kernel
theorem d_M_comes_41 : decode b_M_comes 41 = .ok (.iinc 2 1, 3) := by decide +kernel
theorem d_M_comes_44 : decode b_M_comes 44 = .ok (.goto (-31), 3) := by decide +kernel
theorem d_M_comes_47 : decode b_M_comes 47 = .ok (.aload_n 0, 1) := by decide +kernel
theorem d_M_comes_48 : decode b_M_comes 48 = .ok (.getfield 16, 3) := by decide +kernel
theorem d_M_comes_51 : decode b_M_comes 51 = .ok (.aload_n 0, 1) := by decide +kernel
theorem d_M_comes_52 : decode b_M_comes 52 = .ok (.getfield 51, 3) := by decide +kernel
theorem d_M_comes_55 : decode b_M_comes 55 = .ok (.aload_n 0, 1) := by decide +kernel
theorem d_M_comes_56 : decode b_M_comes 56 = .ok (.getfield 61, 3) := by decide +kernel
theorem d_M_comes_59 : decode b_M_comes 59 = .ok (.iastore, 1) := by decide +kernel
theorem d_M_comes_60 : decode b_M_comes 60 = .ok (.aload_n 0, 1) := by decide +kernel
theorem d_M_comes_61 : decode b_M_comes 61 = .ok (.getfield 20, 3) := by decide +kernel
theorem d_M_comes_64 : decode b_M_comes 64 = .ok (.aload_n 0, 1) := by decide +kernel
theorem d_M_comes_65 : decode b_M_comes 65 = .ok (.getfield 51, 3) := by decide +kernel
theorem d_M_comes_68 : decode b_M_comes 68 = .ok (.iconst (-1), 1) := by decide +kernel
theorem d_M_comes_69 : decode b_M_comes 69 = .ok (.iastore, 1) := by decide +kernel
theorem d_M_comes_70 : decode b_M_comes 70 = .ok (.aload_n 0, 1) := by decide +kernel
theorem d_M_comes_71 : decode b_M_comes 71 = .ok (.getfield 23, 3) := by decide +kernel
theorem d_M_comes_74 : decode b_M_comes 74 = .ok (.aload_n 0, 1) := by decide +kernel
theorem d_M_comes_75 : decode b_M_comes 75 = .ok (.getfield 51, 3) := by decide +kernel
theorem d_M_comes_78 : decode b_M_comes 78 = .ok (.iconst 0, 1) := by decide +kernel
theorem d_M_comes_79 : decode b_M_comes 79 = .ok (.iastore, 1) := by decide +kernel
theorem d_M_comes_80 : decode b_M_comes 80 = .ok (.aload_n 0, 1) := by decide +kernel
theorem d_M_comes_81 : decode b_M_comes 81 = .ok (.getfield 26, 3) := by decide +kernel
theorem d_M_comes_84 : decode b_M_comes 84 = .ok (.aload_n 0, 1) := by decide +kernel
theorem d_M_comes_85 : decode b_M_comes 85 = .ok (.getfield 51, 3) := by decide +kernel
theorem d_M_comes_88 : decode b_M_comes 88 = .ok (.iconst (-1), 1) := by decide +kernel
theorem d_M_comes_89 : decode b_M_comes 89 = .ok (.iastore, 1) := by decide +kernel
theorem d_M_comes_90 : decode b_M_comes 90 = .ok (.aload_n 0, 1) := by decide +kernel
theorem d_M_comes_91 : decode b_M_comes 91 = .ok (.dup, 1) := by decide +kernel
theorem d_M_comes_92 : decode b_M_comes 92 = .ok (.getfield 51, 3) := by decide +kernel
theorem d_M_comes_95 : decode b_M_comes 95 = .ok (.dup_x1, 1) := by decide +kernel
theorem d_M_comes_96 : decode b_M_comes 96 = .ok (.iconst 1, 1) := by decide +kernel
theorem d_M_comes_97 : decode b_M_comes 97 = .ok (.iadd, 1) := by decide +kernel
theorem d_M_comes_98 : decode b_M_comes 98 = .ok (.putfield 51, 3) := by decide +kernel
theorem d_M_comes_101 : decode b_M_comes 101 = .ok (.ireturn, 1) := by decide +kernel
theorem d_M_isTooMuch_0 : decode b_M_isTooMuch 0 = .ok (.aload_n 0, 1) := by decide +kernel
theorem d_M_isTooMuch_1 : decode b_M_isTooMuch 1 = .ok (.getfield 61, 3) := by decide +kernel
theorem d_M_isTooMuch_4 : decode b_M_isTooMuch 4 = .ok (.bipush 24, 2) := by decide +kernel
theorem d_M_isTooMuch_6 : decode b_M_isTooMuch 6 = .ok (.if_icmp .gt 19, 3) := by decide +kernel
theorem d_M_isTooMuch_9 : decode b_M_isTooMuch 9 = .ok (.aload_n 0, 1) := by decide +kernel
theorem d_M_isTooMuch_10 : decode b_M_isTooMuch 10 = .ok (.invokevirtual 68, 3) := by decide +kernel
theorem d_M_isTooMuch_13 : decode b_M_isTooMuch 13 = .ok (.ifCond .ge 16, 3) := by decide +kernel
theorem d_M_isTooMuch_16 : decode b_M_isTooMuch 16 = .ok (.aload_n 0, 1) := by decide +kernel
theorem d_M_isTooMuch_17 : decode b_M_isTooMuch 17 = .ok (.getfield 51, 3) := by decide +kernel
theorem d_M_isTooMuch_20 : decode b_M_isTooMuch 20 = .ok (.bipush 60, 2) := by decide +kernel
theorem d_M_isTooMuch_22 : decode b_M_isTooMuch 22 = .ok (.if_icmp .ne 7, 3) := by decide +kernel
theorem d_M_isTooMuch_25 : decode b_M_isTooMuch 25 = .ok (.iconst 1, 1) := by decide +kernel
theorem d_M_isTooMuch_26 : decode b_M_isTooMuch 26 = .ok (.goto 4, 3) := by decide +kernel
theorem d_M_isTooMuch_29 : decode b_M_isTooMuch 29 = .ok (.iconst 0, 1) := by decide +kernel
theorem d_M_isTooMuch_30 : decode b_M_isTooMuch 30 = .ok (.ireturn, 1) := by decide +kernel
theorem d_M_name_0 : decode b_M_name 0 = .ok (.aload_n 0, 1) := by decide +kernel
theorem d_M_name_1 : decode b_M_name 1 = .ok (.invokevirtual 72, 3) := by decide +kernel
theorem d_M_name_4 : decode b_M_name 4 = .ok (.iconst 0, 1) := by decide +kernel
theorem d_M_name_5 : decode b_M_name 5 = .ok (.istore_n 1, 1) := by decide +kernel
theorem d_M_name_6 : decode b_M_name 6 = .ok (.iload_n 1, 1) := by decide +kernel
theorem d_M_name_7 : decode b_M_name 7 = .ok (.aload_n 0, 1) := by decide +kernel
theorem d_M_name_8 : decode b_M_name 8 = .ok (.getfield 54, 3) := by decide +kernel
theorem d_M_name_11 : decode b_M_name 11 = .ok (.if_icmp .ge 19, 3) := by decide +kernel
theorem d_M_name_14 : decode b_M_name 14 = .ok (.aload_n 0, 1) := by decide +kernel
theorem d_M_name_15 : decode b_M_name 15 = .ok (.aload_n 0, 1) := by decide +kernel
theorem d_M_name_16 : decode b_M_name 16 = .ok (.getfield 7, 3) := by decide +kernel
theorem d_M_name_19 : decode b_M_name 19 = .ok (.iload_n 1, 1) := by decide +kernel
theorem d_M_name_20 : decode b_M_name 20 = .ok (.baload, 1) := by decide +kernel
theorem d_M_name_21 : decode b_M_name 21 = .ok (.invokevirtual 75, 3) := by decide +kernel
theorem d_M_name_24 : decode b_M_name 24 = .ok (.iinc 1 1, 3) := by decide +kernel
theorem d_M_name_27 : decode b_M_name 27 = .ok (.goto (-21), 3) := by decide +kernel
theorem d_M_name_30 : decode b_M_name 30 = .ok (.aload_n 0, 1) := by decide +kernel
theorem d_M_name_31 : decode b_M_name 31 = .ok (.aload_n 0, 1) := by decide +kernel
theorem d_M_name_32 : decode b_M_name 32 = .ok (.getfield 54, 3) := by decide +kernel
theorem d_M_name_35 : decode b_M_name 35 = .ok (.ifCond .ne 7, 3) := by decide +kernel
theorem d_M_name_38 : decode b_M_name 38 = .ok (.iconst 1, 1) := by decide +kernel
theorem d_M_name_39 : decode b_M_name 39 = .ok (.goto 15, 3) := by decide +kernel
theorem d_M_name_42 : decode b_M_name 42 = .ok (.aload_n 0, 1) := by decide +kernel
theorem d_M_name_43 : decode b_M_name 43 = .ok (.invokevirtual 79, 3) := by decide +kernel
theorem d_M_name_46 : decode b_M_name 46 = .ok (.ifCond .eq 7, 3) := by decide +kernel
theorem d_M_name_49 : decode b_M_name 49 = .ok (.iconst 2, 1) := by decide +kernel
theorem d_M_name_50 : decode b_M_name 50 = .ok (.goto 4, 3) := by decide +kernel
theorem d_M_name_53 : decode b_M_name 53 = .ok (.iconst 0, 1) := by decide +kernel
theorem d_M_name_54 : decode b_M_name 54 = .ok (.invokevirtual 57, 3) := by decide +kernel
theorem d_M_name_57 : decode b_M_name 57 = .ok (.ifCond .eq 5, 3) := by decide +kernel
theorem d_M_name_60 : decode b_M_name 60 = .ok (.iconst 0, 1) := by decide +kernel
theorem d_M_name_61 : decode b_M_name 61 = .ok (.ireturn, 1) := by decide +kernel
theorem d_M_name_62 : decode b_M_name 62 = .ok (.aload_n 0, 1) := by decide +kernel
theorem d_M_name_63 : decode b_M_name 63 = .ok (.iconst 0, 1) := by decide +kernel
theorem d_M_name_64 : decode b_M_name 64 = .ok (.putfield 54, 3) := by decide +kernel
theorem d_M_name_67 : decode b_M_name 67 = .ok (.aload_n 0, 1) := by decide +kernel
theorem d_M_name_68 : decode b_M_name 68 = .ok (.invokevirtual 83, 3) := by decide +kernel
theorem d_M_name_71 : decode b_M_name 71 = .ok (.ireturn, 1) := by decide +kernel
theorem d_M_told0_0 : decode b_M_told0 0 = .ok (.aload_n 0, 1) := by decide +kernel
theorem d_M_told0_1 : decode b_M_told0 1 = .ok (.invokevirtual 72, 3) := by decide +kernel
theorem d_M_told0_4 : decode b_M_told0 4 = .ok (.aload_n 0, 1) := by decide +kernel
theorem d_M_told0_5 : decode b_M_told0 5 = .ok (.getfield 54, 3) := by decide +kernel
theorem d_M_told0_8 : decode b_M_told0 8 = .ok (.iconst 2, 1) := by decide +kernel
theorem d_M_told0_9 : decode b_M_told0 9 = .ok (.if_icmp .le 60, 3) := by decide +kernel
theorem d_M_told0_12 : decode b_M_told0 12 = .ok (.aload_n 0, 1) := by decide +kernel
theorem d_M_told0_13 : decode b_M_told0 13 = .ok (.getfield 7, 3) := by decide +kernel
theorem d_M_told0_16 : decode b_M_told0 16 = .ok (.iconst 0, 1) := by decide +kernel
theorem d_M_told0_17 : decode b_M_told0 17 = .ok (.baload, 1) := by decide +kernel
theorem d_M_told0_18 : decode b_M_told0 18 = .ok (.bipush 60, 2) := by decide +kernel
theorem d_M_told0_20 : decode b_M_told0 20 = .ok (.if_icmp .ne 49, 3) := by decide +kernel
theorem d_M_told0_23 : decode b_M_told0 23 = .ok (.aload_n 0, 1) := by decide +kernel
theorem d_M_told0_24 : decode b_M_told0 24 = .ok (.getfield 7, 3) := by decide +kernel
theorem d_M_told0_27 : decode b_M_told0 27 = .ok (.aload_n 0, 1) := by decide +kernel
theorem d_M_told0_28 : decode b_M_told0 28 = .ok (.getfield 54, 3) := by decide +kernel
theorem d_M_told0_31 : decode b_M_told0 31 = .ok (.iconst 1, 1) := by decide +kernel
theorem d_M_told0_32 : decode b_M_told0 32 = .ok (.isub, 1) := by decide +kernel
theorem d_M_told0_33 : decode b_M_told0 33 = .ok (.baload, 1) := by decide +kernel
theorem d_M_told0_34 : decode b_M_told0 34 = .ok (.bipush 62, 2) := by decide +kernel
theorem d_M_told0_36 : decode b_M_told0 36 = .ok (.if_icmp .ne 33, 3) := by decide +kernel
theorem d_M_told0_39 : decode b_M_told0 39 = .ok (.iconst 1, 1) := by decide +kernel
theorem d_M_told0_40 : decode b_M_told0 40 = .ok (.istore_n 1, 1) := by decide +kernel
theorem d_M_told0_41 : decode b_M_told0 41 = .ok (.iload_n 1, 1) := by decide +kernel
theorem d_M_told0_42 : decode b_M_told0 42 = .ok (.aload_n 0, 1) := by decide +kernel
theorem d_M_told0_43 : decode b_M_told0 43 = .ok (.getfield 54, 3) := by decide +kernel
theorem d_M_told0_46 : decode b_M_told0 46 = .ok (.iconst 1, 1) := by decide +kernel
theorem d_M_told0_47 : decode b_M_told0 47 = .ok (.isub, 1) := by decide +kernel
theorem d_M_told0_48 : decode b_M_told0 48 = .ok (.if_icmp .ge 19, 3) := by decide +kernel
theorem d_M_told0_51 : decode b_M_told0 51 = .ok (.aload_n 0, 1) := by decide +kernel
theorem d_M_told0_52 : decode b_M_told0 52 = .ok (.aload_n 0, 1) := by decide +kernel
theorem d_M_told0_53 : decode b_M_told0 53 = .ok (.getfield 7, 3) := by decide +kernel
theorem d_M_told0_56 : decode b_M_told0 56 = .ok (.iload_n 1, 1) := by decide +kernel
theorem d_M_told0_57 : decode b_M_told0 57 = .ok (.baload, 1) := by decide +kernel
theorem d_M_told0_58 : decode b_M_told0 58 = .ok (.invokevirtual 75, 3) := by decide +kernel
theorem d_M_told0_61 : decode b_M_told0 61 = .ok (.iinc 1 1, 3) := by decide +kernel
theorem d_M_told0_64 : decode b_M_told0 64 = .ok (.goto (-23), 3) := by decide +kernel
theorem d_M_told0_67 : decode b_M_told0 67 = .ok (.iconst 1, 1) := by decide +kernel
theorem d_M_told0_68 : decode b_M_told0 68 = .ok (.ireturn, 1) := by decide +kernel
theorem d_M_told0_69 : decode b_M_told0 69 = .ok (.iconst 0, 1) := by decide +kernel
theorem d_M_told0_70 : decode b_M_told0 70 = .ok (.istore_n 1, 1) := by decide +kernel
theorem d_M_told0_71 : decode b_M_told0 71 = .ok (.iload_n 1, 1) := by decide +kernel
theorem d_M_told0_72 : decode b_M_told0 72 = .ok (.aload_n 0, 1) := by decide +kernel
theorem d_M_told0_73 : decode b_M_told0 73 = .ok (.getfield 54, 3) := by decide +kernel
theorem d_M_told0_76 : decode b_M_told0 76 = .ok (.if_icmp .ge 20, 3) := by decide +kernel
theorem d_M_told0_79 : decode b_M_told0 79 = .ok (.aload_n 0, 1) := by decide +kernel
theorem d_M_told0_80 : decode b_M_told0 80 = .ok (.getfield 7, 3) := by decide +kernel
theorem d_M_told0_83 : decode b_M_told0 83 = .ok (.iload_n 1, 1) := by decide +kernel
theorem d_M_told0_84 : decode b_M_told0 84 = .ok (.baload, 1) := by decide +kernel
theorem d_M_told0_85 : decode b_M_told0 85 = .ok (.bipush 58, 2) := by decide +kernel
theorem d_M_told0_87 : decode b_M_told0 87 = .ok (.if_icmp .eq 9, 3) := by decide +kernel
theorem d_M_told0_90 : decode b_M_told0 90 = .ok (.iinc 1 1, 3) := by decide +kernel
theorem d_M_told0_93 : decode b_M_told0 93 = .ok (.goto (-22), 3) := by decide +kernel
theorem d_M_told0_96 : decode b_M_told0 96 = .ok (.iload_n 1, 1) := by decide +kernel
theorem d_M_told0_97 : decode b_M_told0 97 = .ok (.aload_n 0, 1) := by decide +kernel
theorem d_M_told0_98 : decode b_M_told0 98 = .ok (.getfield 54, 3) := by decide +kernel
theorem d_M_told0_101 : decode b_M_told0 101 = .ok (.iconst 1, 1) := by decide +kernel
theorem d_M_told0_102 : decode b_M_told0 102 = .ok (.isub, 1) := by decide +kernel
theorem d_M_told0_103 : decode b_M_told0 103 = .ok (.if_icmp .lt 5, 3) := by decide +kernel
theorem d_M_told0_106 : decode b_M_told0 106 = .ok (.iconst 0, 1) := by decide +kernel
theorem d_M_told0_107 : decode b_M_told0 107 = .ok (.ireturn, 1) := by decide +kernel
theorem d_M_told0_108 : decode b_M_told0 108 = .ok (.iconst 0, 1) := by decide +kernel
theorem d_M_told0_109 : decode b_M_told0 109 = .ok (.istore_n 2, 1) := by decide +kernel
theorem d_M_told0_110 : decode b_M_told0 110 = .ok (.iload_n 2, 1) := by decide +kernel
theorem d_M_told0_111 : decode b_M_told0 111 = .ok (.aload_n 0, 1) := by decide +kernel
theorem d_M_told0_112 : decode b_M_told0 112 = .ok (.getfield 51, 3) := by decide +kernel
theorem d_M_told0_115 : decode b_M_told0 115 = .ok (.if_icmp .ge 157, 3) := by decide +kernel
theorem d_M_told0_118 : decode b_M_told0 118 = .ok (.aload_n 0, 1) := by decide +kernel
theorem d_M_told0_119 : decode b_M_told0 119 = .ok (.getfield 20, 3) := by decide +kernel
theorem d_M_told0_122 : decode b_M_told0 122 = .ok (.iload_n 2, 1) := by decide +kernel
theorem d_M_told0_123 : decode b_M_told0 123 = .ok (.iaload, 1) := by decide +kernel
theorem d_M_told0_124 : decode b_M_told0 124 = .ok (.ifCond .lt 17, 3) := by decide +kernel
theorem d_M_told0_127 : decode b_M_told0 127 = .ok (.aload_n 0, 1) := by decide +kernel
theorem d_M_told0_128 : decode b_M_told0 128 = .ok (.getfield 16, 3) := by decide +kernel
theorem d_M_told0_131 : decode b_M_told0 131 = .ok (.iload_n 2, 1) := by decide +kernel
theorem d_M_told0_132 : decode b_M_told0 132 = .ok (.iaload, 1) := by decide +kernel
theorem d_M_told0_133 : decode b_M_told0 133 = .ok (.iload_n 1, 1) := by decide +kernel
theorem d_M_told0_134 : decode b_M_told0 134 = .ok (.if_icmp .ne 7, 3) := by decide +kernel
theorem d_M_told0_137 : decode b_M_told0 137 = .ok (.iconst 1, 1) := by decide +kernel
theorem d_M_told0_138 : decode b_M_told0 138 = .ok (.goto 4, 3) := by decide +kernel
theorem d_M_told0_141 : decode b_M_told0 141 = .ok (.iconst 0, 1) := by decide +kernel
theorem d_M_told0_142 : decode b_M_told0 142 = .ok (.istore_n 3, 1) := by decide +kernel
theorem d_M_told0_143 : decode b_M_told0 143 = .ok (.iconst 0, 1) := by decide +kernel
theorem d_M_told0_144 : decode b_M_told0 144 = .ok (.istore 4, 2) := by decide +kernel
theorem d_M_told0_146 : decode b_M_told0 146 = .ok (.iload 4, 2) := by decide +kernel
theorem d_M_told0_148 : decode b_M_told0 148 = .ok (.iload_n 1, 1) := by decide +kernel
theorem d_M_told0_149 : decode b_M_told0 149 = .ok (.if_icmp .ge 36, 3) := by decide +kernel
theorem d_M_told0_152 : decode b_M_told0 152 = .ok (.iload_n 3, 1) := by decide +kernel
theorem d_M_told0_153 : decode b_M_told0 153 = .ok (.ifCond .eq 32, 3) := by decide +kernel
theorem d_M_told0_156 : decode b_M_told0 156 = .ok (.aload_n 0, 1) := by decide +kernel
theorem d_M_told0_157 : decode b_M_told0 157 = .ok (.iload_n 2, 1) := by decide +kernel
theorem d_M_told0_158 : decode b_M_told0 158 = .ok (.iload 4, 2) := by decide +kernel
theorem d_M_told0_160 : decode b_M_told0 160 = .ok (.invokevirtual 64, 3) := by decide +kernel
theorem d_M_told0_163 : decode b_M_told0 163 = .ok (.aload_n 0, 1) := by decide +kernel
theorem d_M_told0_164 : decode b_M_told0 164 = .ok (.getfield 7, 3) := by decide +kernel
theorem d_M_told0_167 : decode b_M_told0 167 = .ok (.iload 4, 2) := by decide +kernel
theorem d_M_told0_169 : decode b_M_told0 169 = .ok (.baload, 1) := by decide +kernel
theorem d_M_told0_170 : decode b_M_told0 170 = .ok (.if_icmp .ne 7, 3) := by decide +kernel
theorem d_M_told0_173 : decode b_M_told0 173 = .ok (.iconst 1, 1) := by decide +kernel
theorem d_M_told0_174 : decode b_M_told0 174 = .ok (.goto 4, 3) := by decide +kernel
theorem d_M_told0_177 : decode b_M_told0 177 = .ok (.iconst 0, 1) := by decide +kernel
theorem d_M_told0_178 : decode b_M_told0 178 = .ok (.istore_n 3, 1) := by decide +kernel
theorem d_M_told0_179 : decode b_M_told0 179 = .ok (.iinc 4 1, 3) := by decide +kernel
theorem d_M_told0_182 : decode b_M_told0 182 = .ok (.goto (-36), 3) := by decide +kernel
theorem d_M_told0_185 : decode b_M_told0 185 = .ok (.iload_n 3, 1) := by decide +kernel
theorem d_M_told0_186 : decode b_M_told0 186 = .ok (.ifCond .ne 6, 3) := by decide +kernel
theorem d_M_told0_189 : decode b_M_told0 189 = .ok (.goto 77, 3) := by decide +kernel
theorem d_M_told0_192 : decode b_M_told0 192 = .ok (.aload_n 0, 1) := by decide +kernel
theorem d_M_told0_193 : decode b_M_told0 193 = .ok (.getfield 20, 3) := by decide +kernel
theorem d_M_told0_196 : decode b_M_told0 196 = .ok (.iload_n 2, 1) := by decide +kernel
theorem d_M_told0_197 : decode b_M_told0 197 = .ok (.iaload, 1) := by decide +kernel
theorem d_M_told0_198 : decode b_M_told0 198 = .ok (.istore 4, 2) := by decide +kernel
theorem d_M_told0_200 : decode b_M_told0 200 = .ok (.iconst 0, 1) := by decide +kernel
theorem d_M_told0_201 : decode b_M_told0 201 = .ok (.istore 5, 2) := by decide +kernel
theorem d_M_told0_203 : decode b_M_told0 203 = .ok (.iload 5, 2) := by decide +kernel
theorem d_M_told0_205 : decode b_M_told0 205 = .ok (.aload_n 0, 1) := by decide +kernel
theorem d_M_told0_206 : decode b_M_told0 206 = .ok (.getfield 16, 3) := by decide +kernel
theorem d_M_told0_209 : decode b_M_told0 209 = .ok (.iload 4, 2) := by decide +kernel
theorem d_M_told0_211 : decode b_M_told0 211 = .ok (.iaload, 1) := by decide +kernel
theorem d_M_told0_212 : decode b_M_told0 212 = .ok (.if_icmp .ge 21, 3) := by decide +kernel
theorem d_M_told0_215 : decode b_M_told0 215 = .ok (.aload_n 0, 1) := by decide +kernel
theorem d_M_told0_216 : decode b_M_told0 216 = .ok (.aload_n 0, 1) := by decide +kernel
theorem d_M_told0_217 : decode b_M_told0 217 = .ok (.iload 4, 2) := by decide +kernel
theorem d_M_told0_219 : decode b_M_told0 219 = .ok (.iload 5, 2) := by decide +kernel
theorem d_M_told0_221 : decode b_M_told0 221 = .ok (.invokevirtual 64, 3) := by decide +kernel
theorem d_M_told0_224 : decode b_M_told0 224 = .ok (.invokevirtual 75, 3) := by decide +kernel
theorem d_M_told0_227 : decode b_M_told0 227 = .ok (.iinc 5 1, 3) := by decide +kernel
theorem d_M_told0_230 : decode b_M_told0 230 = .ok (.goto (-27), 3) := by decide +kernel
theorem d_M_told0_233 : decode b_M_told0 233 = .ok (.iload_n 1, 1) := by decide +kernel
theorem d_M_told0_234 : decode b_M_told0 234 = .ok (.iconst 1, 1) := by decide +kernel
theorem d_M_told0_235 : decode b_M_told0 235 = .ok (.iadd, 1) := by decide +kernel
theorem d_M_told0_236 : decode b_M_told0 236 = .ok (.istore 5, 2) := by decide +kernel
theorem d_M_told0_238 : decode b_M_told0 238 = .ok (.iload 5, 2) := by decide +kernel
theorem d_M_told0_240 : decode b_M_told0 240 = .ok (.aload_n 0, 1) := by decide +kernel
theorem d_M_told0_241 : decode b_M_told0 241 = .ok (.getfield 54, 3) := by decide +kernel
theorem d_M_told0_244 : decode b_M_told0 244 = .ok (.if_icmp .ge 20, 3) := by decide +kernel
theorem d_M_told0_247 : decode b_M_told0 247 = .ok (.aload_n 0, 1) := by decide +kernel
theorem d_M_told0_248 : decode b_M_told0 248 = .ok (.aload_n 0, 1) := by decide +kernel
theorem d_M_told0_249 : decode b_M_told0 249 = .ok (.getfield 7, 3) := by decide +kernel
theorem d_M_told0_252 : decode b_M_told0 252 = .ok (.iload 5, 2) := by decide +kernel
theorem d_M_told0_254 : decode b_M_told0 254 = .ok (.baload, 1) := by decide +kernel
theorem d_M_told0_255 : decode b_M_told0 255 = .ok (.invokevirtual 75, 3) := by decide +kernel
theorem d_M_told0_258 : decode b_M_told0 258 = .ok (.iinc 5 1, 3) := by decide +kernel
theorem d_M_told0_261 : decode b_M_told0 261 = .ok (.goto (-23), 3) := by decide +kernel
theorem d_M_told0_264 : decode b_M_told0 264 = .ok (.iconst 1, 1) := by decide +kernel
theorem d_M_told0_265 : decode b_M_told0 265 = .ok (.ireturn, 1) := by decide +kernel
theorem d_M_told0_266 : decode b_M_told0 266 = .ok (.iinc 2 1, 3) := by decide +kernel
theorem d_M_told0_269 : decode b_M_told0 269 = .ok (.goto (-159), 3) := by decide +kernel
theorem d_M_told0_272 : decode b_M_told0 272 = .ok (.iconst 0, 1) := by decide +kernel
theorem d_M_told0_273 : decode b_M_told0 273 = .ok (.ireturn, 1) := by decide +kernel
theorem d_M_expand_0 : decode b_M_expand 0 = .ok (.aload_n 0, 1) := by decide +kernel
theorem d_M_expand_1 : decode b_M_expand 1 = .ok (.aload_n 0, 1) := by decide +kernel
theorem d_M_expand_2 : decode b_M_expand 2 = .ok (.getfield 54, 3) := by decide +kernel
theorem d_M_expand_5 : decode b_M_expand 5 = .ok (.ifCond .ne 7, 3) := by decide +kernel
theorem d_M_expand_8 : decode b_M_expand 8 = .ok (.iconst 1, 1) := by decide +kernel
theorem d_M_expand_9 : decode b_M_expand 9 = .ok (.goto 26, 3) := by decide +kernel
theorem d_M_expand_12 : decode b_M_expand 12 = .ok (.aload_n 0, 1) := by decide +kernel
theorem d_M_expand_13 : decode b_M_expand 13 = .ok (.invokevirtual 86, 3) := by decide +kernel
theorem d_M_expand_16 : decode b_M_expand 16 = .ok (.ifCond .ne 7, 3) := by decide +kernel
theorem d_M_expand_19 : decode b_M_expand 19 = .ok (.iconst 2, 1) := by decide +kernel
theorem d_M_expand_20 : decode b_M_expand 20 = .ok (.goto 15, 3) := by decide +kernel
theorem d_M_expand_23 : decode b_M_expand 23 = .ok (.aload_n 0, 1) := by decide +kernel
theorem d_M_expand_24 : decode b_M_expand 24 = .ok (.invokevirtual 79, 3) := by decide +kernel
theorem d_M_expand_27 : decode b_M_expand 27 = .ok (.ifCond .eq 7, 3) := by decide +kernel
theorem d_M_expand_30 : decode b_M_expand 30 = .ok (.iconst 3, 1) := by decide +kernel
theorem d_M_expand_31 : decode b_M_expand 31 = .ok (.goto 4, 3) := by decide +kernel
theorem d_M_expand_34 : decode b_M_expand 34 = .ok (.iconst 0, 1) := by decide +kernel
theorem d_M_expand_35 : decode b_M_expand 35 = .ok (.invokevirtual 57, 3) := by decide +kernel
theorem d_M_expand_38 : decode b_M_expand 38 = .ok (.ifCond .eq 5, 3) := by decide +kernel
theorem d_M_expand_41 : decode b_M_expand 41 = .ok (.iconst 0, 1) := by decide +kernel
theorem d_M_expand_42 : decode b_M_expand 42 = .ok (.ireturn, 1) := by decide +kernel
theorem d_M_expand_43 : decode b_M_expand 43 = .ok (.aload_n 0, 1) := by decide +kernel
theorem d_M_expand_44 : decode b_M_expand 44 = .ok (.iconst 0, 1) := by decide +kernel
theorem d_M_expand_45 : decode b_M_expand 45 = .ok (.putfield 54, 3) := by decide +kernel
theorem d_M_expand_48 : decode b_M_expand 48 = .ok (.aload_n 0, 1) := by decide +kernel
theorem d_M_expand_49 : decode b_M_expand 49 = .ok (.invokevirtual 83, 3) := by decide +kernel
theorem d_M_expand_52 : decode b_M_expand 52 = .ok (.ireturn, 1) := by decide +kernel
theorem d_M_canBeShort_0 : decode b_M_canBeShort 0 = .ok (.aload_n 0, 1) := by decide +kernel
theorem d_M_canBeShort_1 : decode b_M_canBeShort 1 = .ok (.getfield 16, 3) := by decide +kernel
theorem d_M_canBeShort_4 : decode b_M_canBeShort 4 = .ok (.iload_n 1, 1) := by decide +kernel
theorem d_M_canBeShort_5 : decode b_M_canBeShort 5 = .ok (.iaload, 1) := by decide +kernel
theorem d_M_canBeShort_6 : decode b_M_canBeShort 6 = .ok (.iconst 4, 1) := by decide +kernel
theorem d_M_canBeShort_7 : decode b_M_canBeShort 7 = .ok (.if_icmp .gt 29, 3) := by decide +kernel
theorem d_M_canBeShort_10 : decode b_M_canBeShort 10 = .ok (.aload_n 0, 1) := by decide +kernel
theorem d_M_canBeShort_11 : decode b_M_canBeShort 11 = .ok (.iload_n 1, 1) := by decide +kernel
theorem d_M_canBeShort_12 : decode b_M_canBeShort 12 = .ok (.iconst 0, 1) := by decide +kernel
theorem d_M_canBeShort_13 : decode b_M_canBeShort 13 = .ok (.invokevirtual 64, 3) := by decide +kernel
theorem d_M_canBeShort_16 : decode b_M_canBeShort 16 = .ok (.bipush 97, 2) := by decide +kernel
theorem d_M_canBeShort_18 : decode b_M_canBeShort 18 = .ok (.if_icmp .lt 18, 3) := by decide +kernel
theorem d_M_canBeShort_21 : decode b_M_canBeShort 21 = .ok (.aload_n 0, 1) := by decide +kernel
theorem d_M_canBeShort_22 : decode b_M_canBeShort 22 = .ok (.iload_n 1, 1) := by decide +kernel
theorem d_M_canBeShort_23 : decode b_M_canBeShort 23 = .ok (.iconst 0, 1) := by decide +kernel
theorem d_M_canBeShort_24 : decode b_M_canBeShort 24 = .ok (.invokevirtual 64, 3) := by decide +kernel
theorem d_M_canBeShort_27 : decode b_M_canBeShort 27 = .ok (.bipush 122, 2) := by decide +kernel
theorem d_M_canBeShort_29 : decode b_M_canBeShort 29 = .ok (.if_icmp .gt 7, 3) := by decide +kernel
theorem d_M_canBeShort_32 : decode b_M_canBeShort 32 = .ok (.iconst 1, 1) := by decide +kernel
theorem d_M_canBeShort_33 : decode b_M_canBeShort 33 = .ok (.goto 4, 3) := by decide +kernel
theorem d_M_canBeShort_36 : decode b_M_canBeShort 36 = .ok (.iconst 0, 1) := by decide +kernel
theorem d_M_canBeShort_37 : decode b_M_canBeShort 37 = .ok (.istore_n 2, 1) := by decide +kernel
theorem d_M_canBeShort_38 : decode b_M_canBeShort 38 = .ok (.iconst 1, 1) := by decide +kernel
theorem d_M_canBeShort_39 : decode b_M_canBeShort 39 = .ok (.istore_n 3, 1) := by decide +kernel
theorem d_M_canBeShort_40 : decode b_M_canBeShort 40 = .ok (.iload_n 3, 1) := by decide +kernel
theorem d_M_canBeShort_41 : decode b_M_canBeShort 41 = .ok (.aload_n 0, 1) := by decide +kernel
theorem d_M_canBeShort_42 : decode b_M_canBeShort 42 = .ok (.getfield 16, 3) := by decide +kernel
theorem d_M_canBeShort_45 : decode b_M_canBeShort 45 = .ok (.iload_n 1, 1) := by decide +kernel
theorem d_M_canBeShort_46 : decode b_M_canBeShort 46 = .ok (.iaload, 1) := by decide +kernel
theorem d_M_canBeShort_47 : decode b_M_canBeShort 47 = .ok (.if_icmp .ge 55, 3) := by decide +kernel
theorem d_M_canBeShort_50 : decode b_M_canBeShort 50 = .ok (.iload_n 2, 1) := by decide +kernel
theorem d_M_canBeShort_51 : decode b_M_canBeShort 51 = .ok (.ifCond .eq 51, 3) := by decide +kernel
theorem d_M_canBeShort_54 : decode b_M_canBeShort 54 = .ok (.aload_n 0, 1) := by decide +kernel
theorem d_M_canBeShort_55 : decode b_M_canBeShort 55 = .ok (.iload_n 1, 1) := by decide +kernel
theorem d_M_canBeShort_56 : decode b_M_canBeShort 56 = .ok (.iload_n 3, 1) := by decide +kernel
theorem d_M_canBeShort_57 : decode b_M_canBeShort 57 = .ok (.invokevirtual 64, 3) := by decide +kernel
theorem d_M_canBeShort_60 : decode b_M_canBeShort 60 = .ok (.istore 4, 2) := by decide +kernel
theorem d_M_canBeShort_62 : decode b_M_canBeShort 62 = .ok (.iload 4, 2) := by decide +kernel
theorem d_M_canBeShort_64 : decode b_M_canBeShort 64 = .ok (.bipush 97, 2) := by decide +kernel
theorem d_M_canBeShort_66 : decode b_M_canBeShort 66 = .ok (.if_icmp .lt 10, 3) := by decide +kernel
theorem d_M_canBeShort_69 : decode b_M_canBeShort 69 = .ok (.iload 4, 2) := by decide +kernel
theorem d_M_canBeShort_71 : decode b_M_canBeShort 71 = .ok (.bipush 122, 2) := by decide +kernel
theorem d_M_canBeShort_73 : decode b_M_canBeShort 73 = .ok (.if_icmp .le 17, 3) := by decide +kernel
theorem d_M_canBeShort_76 : decode b_M_canBeShort 76 = .ok (.iload 4, 2) := by decide +kernel
theorem d_M_canBeShort_78 : decode b_M_canBeShort 78 = .ok (.bipush 48, 2) := by decide +kernel
theorem d_M_canBeShort_80 : decode b_M_canBeShort 80 = .ok (.if_icmp .lt 14, 3) := by decide +kernel
theorem d_M_canBeShort_83 : decode b_M_canBeShort 83 = .ok (.iload 4, 2) := by decide +kernel
theorem d_M_canBeShort_85 : decode b_M_canBeShort 85 = .ok (.bipush 57, 2) := by decide +kernel
theorem d_M_canBeShort_87 : decode b_M_canBeShort 87 = .ok (.if_icmp .gt 7, 3) := by decide +kernel
theorem d_M_canBeShort_90 : decode b_M_canBeShort 90 = .ok (.iconst 1, 1) := by decide +kernel
theorem d_M_canBeShort_91 : decode b_M_canBeShort 91 = .ok (.goto 4, 3) := by decide +kernel
theorem d_M_canBeShort_94 : decode b_M_canBeShort 94 = .ok (.iconst 0, 1) := by decide +kernel
theorem d_M_canBeShort_95 : decode b_M_canBeShort 95 = .ok (.istore_n 2, 1) := by decide +kernel
theorem d_M_canBeShort_96 : decode b_M_canBeShort 96 = .ok (.iinc 3 1, 3) := by decide +kernel
theorem d_M_canBeShort_99 : decode b_M_canBeShort 99 = .ok (.goto (-59), 3) := by decide +kernel
theorem d_M_canBeShort_102 : decode b_M_canBeShort 102 = .ok (.iload_n 2, 1) := by decide +kernel
theorem d_M_canBeShort_103 : decode b_M_canBeShort 103 = .ok (.ireturn, 1) := by decide +kernel
theorem d_M_prefix_0 : decode b_M_prefix 0 = .ok (.aload_n 0, 1) := by decide +kernel
theorem d_M_prefix_1 : decode b_M_prefix 1 = .ok (.aload_n 0, 1) := by decide +kernel
theorem d_M_prefix_2 : decode b_M_prefix 2 = .ok (.iload_n 1, 1) := by decide +kernel
theorem d_M_prefix_3 : decode b_M_prefix 3 = .ok (.invokevirtual 89, 3) := by decide +kernel
theorem d_M_prefix_6 : decode b_M_prefix 6 = .ok (.ifCond .ne 11, 3) := by decide +kernel
theorem d_M_prefix_9 : decode b_M_prefix 9 = .ok (.aload_n 0, 1) := by decide +kernel
theorem d_M_prefix_10 : decode b_M_prefix 10 = .ok (.iload_n 2, 1) := by decide +kernel
theorem d_M_prefix_11 : decode b_M_prefix 11 = .ok (.invokevirtual 89, 3) := by decide +kernel
theorem d_M_prefix_14 : decode b_M_prefix 14 = .ok (.ifCond .eq 7, 3) := by decide +kernel
theorem d_M_prefix_17 : decode b_M_prefix 17 = .ok (.iconst 1, 1) := by decide +kernel
theorem d_M_prefix_18 : decode b_M_prefix 18 = .ok (.goto 21, 3) := by decide +kernel
theorem d_M_prefix_21 : decode b_M_prefix 21 = .ok (.iload_n 1, 1) := by decide +kernel
theorem d_M_prefix_22 : decode b_M_prefix 22 = .ok (.iload_n 2, 1) := by decide +kernel
theorem d_M_prefix_23 : decode b_M_prefix 23 = .ok (.if_icmp .eq 11, 3) := by decide +kernel
theorem d_M_prefix_26 : decode b_M_prefix 26 = .ok (.aload_n 0, 1) := by decide +kernel
theorem d_M_prefix_27 : decode b_M_prefix 27 = .ok (.iload_n 2, 1) := by decide +kernel
theorem d_M_prefix_28 : decode b_M_prefix 28 = .ok (.invokevirtual 92, 3) := by decide +kernel
theorem d_M_prefix_31 : decode b_M_prefix 31 = .ok (.ifCond .ne 7, 3) := by decide +kernel
theorem d_M_prefix_34 : decode b_M_prefix 34 = .ok (.iconst 2, 1) := by decide +kernel
theorem d_M_prefix_35 : decode b_M_prefix 35 = .ok (.goto 4, 3) := by decide +kernel
theorem d_M_prefix_38 : decode b_M_prefix 38 = .ok (.iconst 0, 1) := by decide +kernel
theorem d_M_prefix_39 : decode b_M_prefix 39 = .ok (.invokevirtual 57, 3) := by decide +kernel
theorem d_M_prefix_42 : decode b_M_prefix 42 = .ok (.ifCond .eq 5, 3) := by decide +kernel
theorem d_M_prefix_45 : decode b_M_prefix 45 = .ok (.iconst 0, 1) := by decide +kernel
theorem d_M_prefix_46 : decode b_M_prefix 46 = .ok (.ireturn, 1) := by decide +kernel
theorem d_M_prefix_47 : decode b_M_prefix 47 = .ok (.aload_n 0, 1) := by decide +kernel
theorem d_M_prefix_48 : decode b_M_prefix 48 = .ok (.getfield 20, 3) := by decide +kernel
theorem d_M_prefix_51 : decode b_M_prefix 51 = .ok (.iload_n 2, 1) := by decide +kernel
theorem d_M_prefix_52 : decode b_M_prefix 52 = .ok (.iaload, 1) := by decide +kernel
theorem d_M_prefix_53 : decode b_M_prefix 53 = .ok (.ifCond .lt 27, 3) := by decide +kernel
theorem d_M_prefix_56 : decode b_M_prefix 56 = .ok (.aload_n 0, 1) := by decide +kernel
theorem d_M_prefix_57 : decode b_M_prefix 57 = .ok (.getfield 20, 3) := by decide +kernel
theorem d_M_prefix_60 : decode b_M_prefix 60 = .ok (.iload_n 2, 1) := by decide +kernel
theorem d_M_prefix_61 : decode b_M_prefix 61 = .ok (.iaload, 1) := by decide +kernel
theorem d_M_prefix_62 : decode b_M_prefix 62 = .ok (.iload_n 1, 1) := by decide +kernel
theorem d_M_prefix_63 : decode b_M_prefix 63 = .ok (.if_icmp .eq 17, 3) := by decide +kernel
theorem d_M_prefix_66 : decode b_M_prefix 66 = .ok (.aload_n 0, 1) := by decide +kernel
theorem d_M_prefix_67 : decode b_M_prefix 67 = .ok (.iconst 1, 1) := by decide +kernel
theorem d_M_prefix_68 : decode b_M_prefix 68 = .ok (.aload_n 0, 1) := by decide +kernel
theorem d_M_prefix_69 : decode b_M_prefix 69 = .ok (.getfield 20, 3) := by decide +kernel
theorem d_M_prefix_72 : decode b_M_prefix 72 = .ok (.iload_n 2, 1) := by decide +kernel
theorem d_M_prefix_73 : decode b_M_prefix 73 = .ok (.iaload, 1) := by decide +kernel
theorem d_M_prefix_74 : decode b_M_prefix 74 = .ok (.iload_n 1, 1) := by decide +kernel
theorem d_M_prefix_75 : decode b_M_prefix 75 = .ok (.invokevirtual 95, 3) := by decide +kernel
theorem d_M_prefix_78 : decode b_M_prefix 78 = .ok (.iconst 0, 1) := by decide +kernel
theorem d_M_prefix_79 : decode b_M_prefix 79 = .ok (.ireturn, 1) := by decide +kernel
theorem d_M_prefix_80 : decode b_M_prefix 80 = .ok (.aload_n 0, 1) := by decide +kernel
theorem d_M_prefix_81 : decode b_M_prefix 81 = .ok (.getfield 20, 3) := by decide +kernel
theorem d_M_prefix_84 : decode b_M_prefix 84 = .ok (.iload_n 2, 1) := by decide +kernel
theorem d_M_prefix_85 : decode b_M_prefix 85 = .ok (.iload_n 1, 1) := by decide +kernel
theorem d_M_prefix_86 : decode b_M_prefix 86 = .ok (.iastore, 1) := by decide +kernel
theorem d_M_prefix_87 : decode b_M_prefix 87 = .ok (.iconst 1, 1) := by decide +kernel
theorem d_M_prefix_88 : decode b_M_prefix 88 = .ok (.ireturn, 1) := by decide +kernel
theorem d_M_isSpace_0 : decode b_M_isSpace 0 = .ok (.iconst 0, 1) := by decide +kernel
theorem d_M_isSpace_1 : decode b_M_isSpace 1 = .ok (.istore_n 2, 1) := by decide +kernel
theorem d_M_isSpace_2 : decode b_M_isSpace 2 = .ok (.iload_n 2, 1) := by decide +kernel
theorem d_M_isSpace_3 : decode b_M_isSpace 3 = .ok (.aload_n 0, 1) := by decide +kernel
theorem d_M_isSpace_4 : decode b_M_isSpace 4 = .ok (.getfield 51, 3) := by decide +kernel
theorem d_M_isSpace_7 : decode b_M_isSpace 7 = .ok (.if_icmp .ge 21, 3) := by decide +kernel
theorem d_M_isSpace_10 : decode b_M_isSpace 10 = .ok (.aload_n 0, 1) := by decide +kernel
theorem d_M_isSpace_11 : decode b_M_isSpace 11 = .ok (.getfield 20, 3) := by decide +kernel
theorem d_M_isSpace_14 : decode b_M_isSpace 14 = .ok (.iload_n 2, 1) := by decide +kernel
theorem d_M_isSpace_15 : decode b_M_isSpace 15 = .ok (.iaload, 1) := by decide +kernel
theorem d_M_isSpace_16 : decode b_M_isSpace 16 = .ok (.iload_n 1, 1) := by decide +kernel
theorem d_M_isSpace_17 : decode b_M_isSpace 17 = .ok (.if_icmp .ne 5, 3) := by decide +kernel
theorem d_M_isSpace_20 : decode b_M_isSpace 20 = .ok (.iconst 1, 1) := by decide +kernel
theorem d_M_isSpace_21 : decode b_M_isSpace 21 = .ok (.ireturn, 1) := by decide +kernel
theorem d_M_isSpace_22 : decode b_M_isSpace 22 = .ok (.iinc 2 1, 3) := by decide +kernel
theorem d_M_isSpace_25 : decode b_M_isSpace 25 = .ok (.goto (-23), 3) := by decide +kernel
theorem d_M_isSpace_28 : decode b_M_isSpace 28 = .ok (.iconst 0, 1) := by decide +kernel
theorem d_M_isSpace_29 : decode b_M_isSpace 29 = .ok (.ireturn, 1) := by decide +kernel
theorem d_M_goesOn_0 : decode b_M_goesOn 0 = .ok (.aload_n 0, 1) := by decide +kernel
theorem d_M_goesOn_1 : decode b_M_goesOn 1 = .ok (.getfield 16, 3) := by decide +kernel
theorem d_M_goesOn_4 : decode b_M_goesOn 4 = .ok (.iload_n 1, 1) := by decide +kernel
theorem d_M_goesOn_5 : decode b_M_goesOn 5 = .ok (.iaload, 1) := by decide +kernel
theorem d_M_goesOn_6 : decode b_M_goesOn 6 = .ok (.aload_n 0, 1) := by decide +kernel
theorem d_M_goesOn_7 : decode b_M_goesOn 7 = .ok (.getfield 16, 3) := by decide +kernel
theorem d_M_goesOn_10 : decode b_M_goesOn 10 = .ok (.iload_n 2, 1) := by decide +kernel
theorem d_M_goesOn_11 : decode b_M_goesOn 11 = .ok (.iaload, 1) := by decide +kernel
theorem d_M_goesOn_12 : decode b_M_goesOn 12 = .ok (.if_icmp .le 7, 3) := by decide +kernel
theorem d_M_goesOn_15 : decode b_M_goesOn 15 = .ok (.iconst 1, 1) := by decide +kernel
theorem d_M_goesOn_16 : decode b_M_goesOn 16 = .ok (.goto 4, 3) := by decide +kernel
theorem d_M_goesOn_19 : decode b_M_goesOn 19 = .ok (.iconst 0, 1) := by decide +kernel
theorem d_M_goesOn_20 : decode b_M_goesOn 20 = .ok (.istore_n 3, 1) := by decide +kernel
theorem d_M_goesOn_21 : decode b_M_goesOn 21 = .ok (.iconst 0, 1) := by decide +kernel
theorem d_M_goesOn_22 : decode b_M_goesOn 22 = .ok (.istore 4, 2) := by decide +kernel
theorem d_M_goesOn_24 : decode b_M_goesOn 24 = .ok (.iload 4, 2) := by decide +kernel
theorem d_M_goesOn_26 : decode b_M_goesOn 26 = .ok (.aload_n 0, 1) := by decide +kernel
theorem d_M_goesOn_27 : decode b_M_goesOn 27 = .ok (.getfield 16, 3) := by decide +kernel
theorem d_M_goesOn_30 : decode b_M_goesOn 30 = .ok (.iload_n 2, 1) := by decide +kernel
theorem d_M_goesOn_31 : decode b_M_goesOn 31 = .ok (.iaload, 1) := by decide +kernel
theorem d_M_goesOn_32 : decode b_M_goesOn 32 = .ok (.if_icmp .ge 36, 3) := by decide +kernel
theorem d_M_goesOn_35 : decode b_M_goesOn 35 = .ok (.iload_n 3, 1) := by decide +kernel
theorem d_M_goesOn_36 : decode b_M_goesOn 36 = .ok (.ifCond .eq 32, 3) := by decide +kernel
theorem d_M_goesOn_39 : decode b_M_goesOn 39 = .ok (.aload_n 0, 1) := by decide +kernel
theorem d_M_goesOn_40 : decode b_M_goesOn 40 = .ok (.iload_n 1, 1) := by decide +kernel
theorem d_M_goesOn_41 : decode b_M_goesOn 41 = .ok (.iload 4, 2) := by decide +kernel
theorem d_M_goesOn_43 : decode b_M_goesOn 43 = .ok (.invokevirtual 64, 3) := by decide +kernel
theorem d_M_goesOn_46 : decode b_M_goesOn 46 = .ok (.aload_n 0, 1) := by decide +kernel
theorem d_M_goesOn_47 : decode b_M_goesOn 47 = .ok (.iload_n 2, 1) := by decide +kernel
theorem d_M_goesOn_48 : decode b_M_goesOn 48 = .ok (.iload 4, 2) := by decide +kernel
theorem d_M_goesOn_50 : decode b_M_goesOn 50 = .ok (.invokevirtual 64, 3) := by decide +kernel
theorem d_M_goesOn_53 : decode b_M_goesOn 53 = .ok (.if_icmp .ne 7, 3) := by decide +kernel
theorem d_M_goesOn_56 : decode b_M_goesOn 56 = .ok (.iconst 1, 1) := by decide +kernel
theorem d_M_goesOn_57 : decode b_M_goesOn 57 = .ok (.goto 4, 3) := by decide +kernel
theorem d_M_goesOn_60 : decode b_M_goesOn 60 = .ok (.iconst 0, 1) := by decide +kernel
theorem d_M_goesOn_61 : decode b_M_goesOn 61 = .ok (.istore_n 3, 1) := by decide +kernel
theorem d_M_goesOn_62 : decode b_M_goesOn 62 = .ok (.iinc 4 1, 3) := by decide +kernel
theorem d_M_goesOn_65 : decode b_M_goesOn 65 = .ok (.goto (-41), 3) := by decide +kernel
theorem d_M_goesOn_68 : decode b_M_goesOn 68 = .ok (.iload_n 3, 1) := by decide +kernel
theorem d_M_goesOn_69 : decode b_M_goesOn 69 = .ok (.ireturn, 1) := by decide +kernel
theorem d_M_spaceOf_0 : decode b_M_spaceOf 0 = .ok (.iconst (-1), 1) := by decide +kernel
theorem d_M_spaceOf_1 : decode b_M_spaceOf 1 = .ok (.istore_n 2, 1) := by decide +kernel
theorem d_M_spaceOf_2 : decode b_M_spaceOf 2 = .ok (.iconst 0, 1) := by decide +kernel
theorem d_M_spaceOf_3 : decode b_M_spaceOf 3 = .ok (.istore_n 3, 1) := by decide +kernel
theorem d_M_spaceOf_4 : decode b_M_spaceOf 4 = .ok (.iload_n 3, 1) := by decide +kernel
theorem d_M_spaceOf_5 : decode b_M_spaceOf 5 = .ok (.aload_n 0, 1) := by decide +kernel
theorem d_M_spaceOf_6 : decode b_M_spaceOf 6 = .ok (.getfield 51, 3) := by decide +kernel
theorem d_M_spaceOf_9 : decode b_M_spaceOf 9 = .ok (.if_icmp .ge 47, 3) := by decide +kernel
theorem d_M_spaceOf_12 : decode b_M_spaceOf 12 = .ok (.aload_n 0, 1) := by decide +kernel
theorem d_M_spaceOf_13 : decode b_M_spaceOf 13 = .ok (.iload_n 1, 1) := by decide +kernel
theorem d_M_spaceOf_14 : decode b_M_spaceOf 14 = .ok (.iload_n 3, 1) := by decide +kernel
theorem d_M_spaceOf_15 : decode b_M_spaceOf 15 = .ok (.invokevirtual 99, 3) := by decide +kernel
theorem d_M_spaceOf_18 : decode b_M_spaceOf 18 = .ok (.ifCond .eq 32, 3) := by decide +kernel
theorem d_M_spaceOf_21 : decode b_M_spaceOf 21 = .ok (.aload_n 0, 1) := by decide +kernel
theorem d_M_spaceOf_22 : decode b_M_spaceOf 22 = .ok (.iload_n 3, 1) := by decide +kernel
theorem d_M_spaceOf_23 : decode b_M_spaceOf 23 = .ok (.invokevirtual 103, 3) := by decide +kernel
theorem d_M_spaceOf_26 : decode b_M_spaceOf 26 = .ok (.ifCond .eq 24, 3) := by decide +kernel
theorem d_M_spaceOf_29 : decode b_M_spaceOf 29 = .ok (.iload_n 2, 1) := by decide +kernel
theorem d_M_spaceOf_30 : decode b_M_spaceOf 30 = .ok (.ifCond .lt 18, 3) := by decide +kernel
theorem d_M_spaceOf_33 : decode b_M_spaceOf 33 = .ok (.aload_n 0, 1) := by decide +kernel
theorem d_M_spaceOf_34 : decode b_M_spaceOf 34 = .ok (.getfield 16, 3) := by decide +kernel
theorem d_M_spaceOf_37 : decode b_M_spaceOf 37 = .ok (.iload_n 3, 1) := by decide +kernel
theorem d_M_spaceOf_38 : decode b_M_spaceOf 38 = .ok (.iaload, 1) := by decide +kernel
theorem d_M_spaceOf_39 : decode b_M_spaceOf 39 = .ok (.aload_n 0, 1) := by decide +kernel
theorem d_M_spaceOf_40 : decode b_M_spaceOf 40 = .ok (.getfield 16, 3) := by decide +kernel
theorem d_M_spaceOf_43 : decode b_M_spaceOf 43 = .ok (.iload_n 2, 1) := by decide +kernel
theorem d_M_spaceOf_44 : decode b_M_spaceOf 44 = .ok (.iaload, 1) := by decide +kernel
theorem d_M_spaceOf_45 : decode b_M_spaceOf 45 = .ok (.if_icmp .le 5, 3) := by decide +kernel
theorem d_M_spaceOf_48 : decode b_M_spaceOf 48 = .ok (.iload_n 3, 1) := by decide +kernel
theorem d_M_spaceOf_49 : decode b_M_spaceOf 49 = .ok (.istore_n 2, 1) := by decide +kernel
theorem d_M_spaceOf_50 : decode b_M_spaceOf 50 = .ok (.iinc 3 1, 3) := by decide +kernel
theorem d_M_spaceOf_53 : decode b_M_spaceOf 53 = .ok (.goto (-49), 3) := by decide +kernel
theorem d_M_spaceOf_56 : decode b_M_spaceOf 56 = .ok (.iload_n 2, 1) := by decide +kernel
theorem d_M_spaceOf_57 : decode b_M_spaceOf 57 = .ok (.ireturn, 1) := by decide +kernel
theorem d_M_space_0 : decode b_M_space 0 = .ok (.aload_n 0, 1) := by decide +kernel
theorem d_M_space_1 : decode b_M_space 1 = .ok (.aload_n 0, 1) := by decide +kernel
theorem d_M_space_2 : decode b_M_space 2 = .ok (.iload_n 1, 1) := by decide +kernel
theorem d_M_space_3 : decode b_M_space 3 = .ok (.invokevirtual 89, 3) := by decide +kernel
theorem d_M_space_6 : decode b_M_space 6 = .ok (.ifCond .eq 7, 3) := by decide +kernel
theorem d_M_space_9 : decode b_M_space 9 = .ok (.iconst 1, 1) := by decide +kernel
theorem d_M_space_10 : decode b_M_space 10 = .ok (.goto 4, 3) := by decide +kernel
theorem d_M_space_13 : decode b_M_space 13 = .ok (.iconst 0, 1) := by decide +kernel
theorem d_M_space_14 : decode b_M_space 14 = .ok (.invokevirtual 57, 3) := by decide +kernel
theorem d_M_space_17 : decode b_M_space 17 = .ok (.ifCond .eq 7, 3) := by decide +kernel
theorem d_M_space_20 : decode b_M_space 20 = .ok (.iconst 0, 1) := by decide +kernel
theorem d_M_space_21 : decode b_M_space 21 = .ok (.goto 8, 3) := by decide +kernel
theorem d_M_space_24 : decode b_M_space 24 = .ok (.aload_n 0, 1) := by decide +kernel
theorem d_M_space_25 : decode b_M_space 25 = .ok (.iload_n 1, 1) := by decide +kernel
theorem d_M_space_26 : decode b_M_space 26 = .ok (.invokevirtual 106, 3) := by decide +kernel
theorem d_M_space_29 : decode b_M_space 29 = .ok (.ireturn, 1) := by decide +kernel
theorem d_M_isBefore_0 : decode b_M_isBefore 0 = .ok (.iconst 0, 1) := by decide +kernel
theorem d_M_isBefore_1 : decode b_M_isBefore 1 = .ok (.istore_n 3, 1) := by decide +kernel
theorem d_M_isBefore_2 : decode b_M_isBefore 2 = .ok (.iload_n 3, 1) := by decide +kernel
theorem d_M_isBefore_3 : decode b_M_isBefore 3 = .ok (.aload_n 0, 1) := by decide +kernel
theorem d_M_isBefore_4 : decode b_M_isBefore 4 = .ok (.getfield 16, 3) := by decide +kernel
theorem d_M_isBefore_7 : decode b_M_isBefore 7 = .ok (.iload_n 1, 1) := by decide +kernel
theorem d_M_isBefore_8 : decode b_M_isBefore 8 = .ok (.iaload, 1) := by decide +kernel
theorem d_M_isBefore_9 : decode b_M_isBefore 9 = .ok (.if_icmp .ge 34, 3) := by decide +kernel
theorem d_M_isBefore_12 : decode b_M_isBefore 12 = .ok (.iload_n 3, 1) := by decide +kernel
theorem d_M_isBefore_13 : decode b_M_isBefore 13 = .ok (.aload_n 0, 1) := by decide +kernel
theorem d_M_isBefore_14 : decode b_M_isBefore 14 = .ok (.getfield 16, 3) := by decide +kernel
theorem d_M_isBefore_17 : decode b_M_isBefore 17 = .ok (.iload_n 2, 1) := by decide +kernel
theorem d_M_isBefore_18 : decode b_M_isBefore 18 = .ok (.iaload, 1) := by decide +kernel
theorem d_M_isBefore_19 : decode b_M_isBefore 19 = .ok (.if_icmp .ge 24, 3) := by decide +kernel
theorem d_M_isBefore_22 : decode b_M_isBefore 22 = .ok (.aload_n 0, 1) := by decide +kernel
theorem d_M_isBefore_23 : decode b_M_isBefore 23 = .ok (.iload_n 1, 1) := by decide +kernel
theorem d_M_isBefore_24 : decode b_M_isBefore 24 = .ok (.iload_n 3, 1) := by decide +kernel
theorem d_M_isBefore_25 : decode b_M_isBefore 25 = .ok (.invokevirtual 64, 3) := by decide +kernel
theorem d_M_isBefore_28 : decode b_M_isBefore 28 = .ok (.aload_n 0, 1) := by decide +kernel
theorem d_M_isBefore_29 : decode b_M_isBefore 29 = .ok (.iload_n 2, 1) := by decide +kernel
theorem d_M_isBefore_30 : decode b_M_isBefore 30 = .ok (.iload_n 3, 1) := by decide +kernel
theorem d_M_isBefore_31 : decode b_M_isBefore 31 = .ok (.invokevirtual 64, 3) := by decide +kernel
theorem d_M_isBefore_34 : decode b_M_isBefore 34 = .ok (.if_icmp .ne 9, 3) := by decide +kernel
theorem d_M_isBefore_37 : decode b_M_isBefore 37 = .ok (.iinc 3 1, 3) := by decide +kernel
theorem d_M_isBefore_40 : decode b_M_isBefore 40 = .ok (.goto (-38), 3) := by decide +kernel
theorem d_M_isBefore_43 : decode b_M_isBefore 43 = .ok (.iload_n 3, 1) := by decide +kernel
theorem d_M_isBefore_44 : decode b_M_isBefore 44 = .ok (.aload_n 0, 1) := by decide +kernel
theorem d_M_isBefore_45 : decode b_M_isBefore 45 = .ok (.getfield 16, 3) := by decide +kernel
theorem d_M_isBefore_48 : decode b_M_isBefore 48 = .ok (.iload_n 1, 1) := by decide +kernel
theorem d_M_isBefore_49 : decode b_M_isBefore 49 = .ok (.iaload, 1) := by decide +kernel
theorem d_M_isBefore_50 : decode b_M_isBefore 50 = .ok (.if_icmp .ne 21, 3) := by decide +kernel
theorem d_M_isBefore_53 : decode b_M_isBefore 53 = .ok (.aload_n 0, 1) := by decide +kernel
theorem d_M_isBefore_54 : decode b_M_isBefore 54 = .ok (.getfield 16, 3) := by decide +kernel
theorem d_M_isBefore_57 : decode b_M_isBefore 57 = .ok (.iload_n 2, 1) := by decide +kernel
theorem d_M_isBefore_58 : decode b_M_isBefore 58 = .ok (.iaload, 1) := by decide +kernel
theorem d_M_isBefore_59 : decode b_M_isBefore 59 = .ok (.iload_n 3, 1) := by decide +kernel
theorem d_M_isBefore_60 : decode b_M_isBefore 60 = .ok (.if_icmp .le 7, 3) := by decide +kernel
theorem d_M_isBefore_63 : decode b_M_isBefore 63 = .ok (.iconst 1, 1) := by decide +kernel
theorem d_M_isBefore_64 : decode b_M_isBefore 64 = .ok (.goto 37, 3) := by decide +kernel
theorem d_M_isBefore_67 : decode b_M_isBefore 67 = .ok (.iconst 0, 1) := by decide +kernel
theorem d_M_isBefore_68 : decode b_M_isBefore 68 = .ok (.goto 33, 3) := by decide +kernel
theorem d_M_isBefore_71 : decode b_M_isBefore 71 = .ok (.iload_n 3, 1) := by decide +kernel
theorem d_M_isBefore_72 : decode b_M_isBefore 72 = .ok (.aload_n 0, 1) := by decide +kernel
theorem d_M_isBefore_73 : decode b_M_isBefore 73 = .ok (.getfield 16, 3) := by decide +kernel
theorem d_M_isBefore_76 : decode b_M_isBefore 76 = .ok (.iload_n 2, 1) := by decide +kernel
theorem d_M_isBefore_77 : decode b_M_isBefore 77 = .ok (.iaload, 1) := by decide +kernel
theorem d_M_isBefore_78 : decode b_M_isBefore 78 = .ok (.if_icmp .ge 22, 3) := by decide +kernel
theorem d_M_isBefore_81 : decode b_M_isBefore 81 = .ok (.aload_n 0, 1) := by decide +kernel
theorem d_M_isBefore_82 : decode b_M_isBefore 82 = .ok (.iload_n 1, 1) := by decide +kernel
theorem d_M_isBefore_83 : decode b_M_isBefore 83 = .ok (.iload_n 3, 1) := by decide +kernel
theorem d_M_isBefore_84 : decode b_M_isBefore 84 = .ok (.invokevirtual 64, 3) := by decide +kernel
theorem d_M_isBefore_87 : decode b_M_isBefore 87 = .ok (.aload_n 0, 1) := by decide +kernel
theorem d_M_isBefore_88 : decode b_M_isBefore 88 = .ok (.iload_n 2, 1) := by decide +kernel
theorem d_M_isBefore_89 : decode b_M_isBefore 89 = .ok (.iload_n 3, 1) := by decide +kernel
theorem d_M_isBefore_90 : decode b_M_isBefore 90 = .ok (.invokevirtual 64, 3) := by decide +kernel
theorem d_M_isBefore_93 : decode b_M_isBefore 93 = .ok (.if_icmp .ge 7, 3) := by decide +kernel
theorem d_M_isBefore_96 : decode b_M_isBefore 96 = .ok (.iconst 1, 1) := by decide +kernel
theorem d_M_isBefore_97 : decode b_M_isBefore 97 = .ok (.goto 4, 3) := by decide +kernel
theorem d_M_isBefore_100 : decode b_M_isBefore 100 = .ok (.iconst 0, 1) := by decide +kernel
theorem d_M_isBefore_101 : decode b_M_isBefore 101 = .ok (.ireturn, 1) := by decide +kernel
theorem d_M_bestOf_0 : decode b_M_bestOf 0 = .ok (.iconst (-1), 1) := by decide +kernel
theorem d_M_bestOf_1 : decode b_M_bestOf 1 = .ok (.istore_n 2, 1) := by decide +kernel
theorem d_M_bestOf_2 : decode b_M_bestOf 2 = .ok (.iconst 0, 1) := by decide +kernel
theorem d_M_bestOf_3 : decode b_M_bestOf 3 = .ok (.istore_n 3, 1) := by decide +kernel
theorem d_M_bestOf_4 : decode b_M_bestOf 4 = .ok (.iload_n 3, 1) := by decide +kernel
theorem d_M_bestOf_5 : decode b_M_bestOf 5 = .ok (.aload_n 0, 1) := by decide +kernel
theorem d_M_bestOf_6 : decode b_M_bestOf 6 = .ok (.getfield 51, 3) := by decide +kernel
theorem d_M_bestOf_9 : decode b_M_bestOf 9 = .ok (.if_icmp .ge 71, 3) := by decide +kernel
theorem d_M_bestOf_12 : decode b_M_bestOf 12 = .ok (.iload_n 1, 1) := by decide +kernel
theorem d_M_bestOf_13 : decode b_M_bestOf 13 = .ok (.ifCond .lt 61, 3) := by decide +kernel
theorem d_M_bestOf_16 : decode b_M_bestOf 16 = .ok (.aload_n 0, 1) := by decide +kernel
theorem d_M_bestOf_17 : decode b_M_bestOf 17 = .ok (.getfield 20, 3) := by decide +kernel
theorem d_M_bestOf_20 : decode b_M_bestOf 20 = .ok (.iload_n 3, 1) := by decide +kernel
theorem d_M_bestOf_21 : decode b_M_bestOf 21 = .ok (.iaload, 1) := by decide +kernel
theorem d_M_bestOf_22 : decode b_M_bestOf 22 = .ok (.iload_n 1, 1) := by decide +kernel
theorem d_M_bestOf_23 : decode b_M_bestOf 23 = .ok (.if_icmp .eq 6, 3) := by decide +kernel
theorem d_M_bestOf_26 : decode b_M_bestOf 26 = .ok (.goto 48, 3) := by decide +kernel
theorem d_M_bestOf_29 : decode b_M_bestOf 29 = .ok (.iload_n 2, 1) := by decide +kernel
theorem d_M_bestOf_30 : decode b_M_bestOf 30 = .ok (.ifCond .lt 42, 3) := by decide +kernel
theorem d_M_bestOf_33 : decode b_M_bestOf 33 = .ok (.aload_n 0, 1) := by decide +kernel
theorem d_M_bestOf_34 : decode b_M_bestOf 34 = .ok (.getfield 16, 3) := by decide +kernel
theorem d_M_bestOf_37 : decode b_M_bestOf 37 = .ok (.iload_n 3, 1) := by decide +kernel
theorem d_M_bestOf_38 : decode b_M_bestOf 38 = .ok (.iaload, 1) := by decide +kernel
theorem d_M_bestOf_39 : decode b_M_bestOf 39 = .ok (.aload_n 0, 1) := by decide +kernel
theorem d_M_bestOf_40 : decode b_M_bestOf 40 = .ok (.getfield 16, 3) := by decide +kernel
theorem d_M_bestOf_43 : decode b_M_bestOf 43 = .ok (.iload_n 2, 1) := by decide +kernel
theorem d_M_bestOf_44 : decode b_M_bestOf 44 = .ok (.iaload, 1) := by decide +kernel
theorem d_M_bestOf_45 : decode b_M_bestOf 45 = .ok (.if_icmp .lt 27, 3) := by decide +kernel
theorem d_M_bestOf_48 : decode b_M_bestOf 48 = .ok (.aload_n 0, 1) := by decide +kernel
theorem d_M_bestOf_49 : decode b_M_bestOf 49 = .ok (.getfield 16, 3) := by decide +kernel
theorem d_M_bestOf_52 : decode b_M_bestOf 52 = .ok (.iload_n 3, 1) := by decide +kernel
theorem d_M_bestOf_53 : decode b_M_bestOf 53 = .ok (.iaload, 1) := by decide +kernel
theorem d_M_bestOf_54 : decode b_M_bestOf 54 = .ok (.aload_n 0, 1) := by decide +kernel
theorem d_M_bestOf_55 : decode b_M_bestOf 55 = .ok (.getfield 16, 3) := by decide +kernel
theorem d_M_bestOf_58 : decode b_M_bestOf 58 = .ok (.iload_n 2, 1) := by decide +kernel
theorem d_M_bestOf_59 : decode b_M_bestOf 59 = .ok (.iaload, 1) := by decide +kernel
theorem d_M_bestOf_60 : decode b_M_bestOf 60 = .ok (.if_icmp .ne 14, 3) := by decide +kernel
theorem d_M_bestOf_63 : decode b_M_bestOf 63 = .ok (.aload_n 0, 1) := by decide +kernel
theorem d_M_bestOf_64 : decode b_M_bestOf 64 = .ok (.iload_n 3, 1) := by decide +kernel
theorem d_M_bestOf_65 : decode b_M_bestOf 65 = .ok (.iload_n 2, 1) := by decide +kernel
theorem d_M_bestOf_66 : decode b_M_bestOf 66 = .ok (.invokevirtual 110, 3) := by decide +kernel
theorem d_M_bestOf_69 : decode b_M_bestOf 69 = .ok (.ifCond .eq 5, 3) := by decide +kernel
theorem d_M_bestOf_72 : decode b_M_bestOf 72 = .ok (.iload_n 3, 1) := by decide +kernel
theorem d_M_bestOf_73 : decode b_M_bestOf 73 = .ok (.istore_n 2, 1) := by decide +kernel
theorem d_M_bestOf_74 : decode b_M_bestOf 74 = .ok (.iinc 3 1, 3) := by decide +kernel
theorem d_M_bestOf_77 : decode b_M_bestOf 77 = .ok (.goto (-73), 3) := by decide +kernel
theorem d_M_bestOf_80 : decode b_M_bestOf 80 = .ok (.iload_n 2, 1) := by decide +kernel
theorem d_M_bestOf_81 : decode b_M_bestOf 81 = .ok (.ireturn, 1) := by decide +kernel
theorem d_M_best_0 : decode b_M_best 0 = .ok (.aload_n 0, 1) := by decide +kernel
theorem d_M_best_1 : decode b_M_best 1 = .ok (.aload_n 0, 1) := by decide +kernel
theorem d_M_best_2 : decode b_M_best 2 = .ok (.iload_n 1, 1) := by decide +kernel
theorem d_M_best_3 : decode b_M_best 3 = .ok (.invokevirtual 89, 3) := by decide +kernel
theorem d_M_best_6 : decode b_M_best 6 = .ok (.ifCond .eq 7, 3) := by decide +kernel
theorem d_M_best_9 : decode b_M_best 9 = .ok (.iconst 1, 1) := by decide +kernel
theorem d_M_best_10 : decode b_M_best 10 = .ok (.goto 4, 3) := by decide +kernel
theorem d_M_best_13 : decode b_M_best 13 = .ok (.iconst 0, 1) := by decide +kernel
theorem d_M_best_14 : decode b_M_best 14 = .ok (.invokevirtual 57, 3) := by decide +kernel
theorem d_M_best_17 : decode b_M_best 17 = .ok (.ifCond .eq 7, 3) := by decide +kernel
theorem d_M_best_20 : decode b_M_best 20 = .ok (.iconst 0, 1) := by decide +kernel
theorem d_M_best_21 : decode b_M_best 21 = .ok (.goto 12, 3) := by decide +kernel
theorem d_M_best_24 : decode b_M_best 24 = .ok (.aload_n 0, 1) := by decide +kernel
theorem d_M_best_25 : decode b_M_best 25 = .ok (.aload_n 0, 1) := by decide +kernel
theorem d_M_best_26 : decode b_M_best 26 = .ok (.iload_n 1, 1) := by decide +kernel
theorem d_M_best_27 : decode b_M_best 27 = .ok (.invokevirtual 106, 3) := by decide +kernel
theorem d_M_best_30 : decode b_M_best 30 = .ok (.invokevirtual 113, 3) := by decide +kernel
theorem d_M_best_33 : decode b_M_best 33 = .ok (.ireturn, 1) := by decide +kernel
theorem d_M_isLetter_0 : decode b_M_isLetter 0 = .ok (.iload_n 0, 1) := by decide +kernel
theorem d_M_isLetter_1 : decode b_M_isLetter 1 = .ok (.bipush 97, 2) := by decide +kernel
theorem d_M_isLetter_3 : decode b_M_isLetter 3 = .ok (.if_icmp .lt 9, 3) := by decide +kernel
theorem d_M_isLetter_6 : decode b_M_isLetter 6 = .ok (.iload_n 0, 1) := by decide +kernel
theorem d_M_isLetter_7 : decode b_M_isLetter 7 = .ok (.bipush 122, 2) := by decide +kernel
theorem d_M_isLetter_9 : decode b_M_isLetter 9 = .ok (.if_icmp .le 15, 3) := by decide +kernel
theorem d_M_isLetter_12 : decode b_M_isLetter 12 = .ok (.iload_n 0, 1) := by decide +kernel
theorem d_M_isLetter_13 : decode b_M_isLetter 13 = .ok (.bipush 65, 2) := by decide +kernel
theorem d_M_isLetter_15 : decode b_M_isLetter 15 = .ok (.if_icmp .lt 13, 3) := by decide +kernel
theorem d_M_isLetter_18 : decode b_M_isLetter 18 = .ok (.iload_n 0, 1) := by decide +kernel
theorem d_M_isLetter_19 : decode b_M_isLetter 19 = .ok (.bipush 90, 2) := by decide +kernel
theorem d_M_isLetter_21 : decode b_M_isLetter 21 = .ok (.if_icmp .gt 7, 3) := by decide +kernel
theorem d_M_isLetter_24 : decode b_M_isLetter 24 = .ok (.iconst 1, 1) := by decide +kernel
theorem d_M_isLetter_25 : decode b_M_isLetter 25 = .ok (.goto 4, 3) := by decide +kernel
theorem d_M_isLetter_28 : decode b_M_isLetter 28 = .ok (.iconst 0, 1) := by decide +kernel
theorem d_M_isLetter_29 : decode b_M_isLetter 29 = .ok (.ireturn, 1) := by decide +kernel
theorem d_M_isTaken_0 : decode b_M_isTaken 0 = .ok (.aload_n 0, 1) := by decide +kernel
theorem d_M_isTaken_1 : decode b_M_isTaken 1 = .ok (.invokevirtual 68, 3) := by decide +kernel
theorem d_M_isTaken_4 : decode b_M_isTaken 4 = .ok (.istore_n 1, 1) := by decide +kernel
theorem d_M_isTaken_5 : decode b_M_isTaken 5 = .ok (.iload_n 1, 1) := by decide +kernel
theorem d_M_isTaken_6 : decode b_M_isTaken 6 = .ok (.ifCond .lt 16, 3) := by decide +kernel
theorem d_M_isTaken_9 : decode b_M_isTaken 9 = .ok (.aload_n 0, 1) := by decide +kernel
theorem d_M_isTaken_10 : decode b_M_isTaken 10 = .ok (.getfield 20, 3) := by decide +kernel
theorem d_M_isTaken_13 : decode b_M_isTaken 13 = .ok (.iload_n 1, 1) := by decide +kernel
theorem d_M_isTaken_14 : decode b_M_isTaken 14 = .ok (.iaload, 1) := by decide +kernel
theorem d_M_isTaken_15 : decode b_M_isTaken 15 = .ok (.ifCond .lt 7, 3) := by decide +kernel
theorem d_M_isTaken_18 : decode b_M_isTaken 18 = .ok (.iconst 1, 1) := by decide +kernel
theorem d_M_isTaken_19 : decode b_M_isTaken 19 = .ok (.goto 4, 3) := by decide +kernel
theorem d_M_isTaken_22 : decode b_M_isTaken 22 = .ok (.iconst 0, 1) := by decide +kernel
theorem d_M_isTaken_23 : decode b_M_isTaken 23 = .ok (.ireturn, 1) := by decide +kernel
theorem d_M_propose_0 : decode b_M_propose 0 = .ok (.aload_n 0, 1) := by decide +kernel
theorem d_M_propose_1 : decode b_M_propose 1 = .ok (.aload_n 0, 1) := by decide +kernel
theorem d_M_propose_2 : decode b_M_propose 2 = .ok (.iload_n 1, 1) := by decide +kernel
theorem d_M_propose_3 : decode b_M_propose 3 = .ok (.invokevirtual 89, 3) := by decide +kernel
theorem d_M_propose_6 : decode b_M_propose 6 = .ok (.ifCond .eq 7, 3) := by decide +kernel
theorem d_M_propose_9 : decode b_M_propose 9 = .ok (.iconst 1, 1) := by decide +kernel
theorem d_M_propose_10 : decode b_M_propose 10 = .ok (.goto 4, 3) := by decide +kernel
theorem d_M_propose_13 : decode b_M_propose 13 = .ok (.iconst 0, 1) := by decide +kernel
theorem d_M_propose_14 : decode b_M_propose 14 = .ok (.invokevirtual 57, 3) := by decide +kernel
theorem d_M_propose_17 : decode b_M_propose 17 = .ok (.ifCond .eq 5, 3) := by decide +kernel
theorem d_M_propose_20 : decode b_M_propose 20 = .ok (.iconst 0, 1) := by decide +kernel
theorem d_M_propose_21 : decode b_M_propose 21 = .ok (.ireturn, 1) := by decide +kernel
theorem d_M_propose_22 : decode b_M_propose 22 = .ok (.aload_n 0, 1) := by decide +kernel
theorem d_M_propose_23 : decode b_M_propose 23 = .ok (.getfield 16, 3) := by decide +kernel
theorem d_M_propose_26 : decode b_M_propose 26 = .ok (.iload_n 1, 1) := by decide +kernel
theorem d_M_propose_27 : decode b_M_propose 27 = .ok (.iaload, 1) := by decide +kernel
theorem d_M_propose_28 : decode b_M_propose 28 = .ok (.istore_n 2, 1) := by decide +kernel
theorem d_M_propose_29 : decode b_M_propose 29 = .ok (.iload_n 2, 1) := by decide +kernel
theorem d_M_propose_30 : decode b_M_propose 30 = .ok (.ifCond .le 23, 3) := by decide +kernel
theorem d_M_propose_33 : decode b_M_propose 33 = .ok (.aload_n 0, 1) := by decide +kernel
theorem d_M_propose_34 : decode b_M_propose 34 = .ok (.iload_n 1, 1) := by decide +kernel
theorem d_M_propose_35 : decode b_M_propose 35 = .ok (.iload_n 2, 1) := by decide +kernel
theorem d_M_propose_36 : decode b_M_propose 36 = .ok (.iconst 1, 1) := by decide +kernel
theorem d_M_propose_37 : decode b_M_propose 37 = .ok (.isub, 1) := by decide +kernel
theorem d_M_propose_38 : decode b_M_propose 38 = .ok (.invokevirtual 64, 3) := by decide +kernel
theorem d_M_propose_41 : decode b_M_propose 41 = .ok (.invokestatic 116, 3) := by decide +kernel
theorem d_M_propose_44 : decode b_M_propose 44 = .ok (.ifCond .ne 9, 3) := by decide +kernel
theorem d_M_propose_47 : decode b_M_propose 47 = .ok (.iinc 2 (-1), 3) := by decide +kernel
theorem d_M_propose_50 : decode b_M_propose 50 = .ok (.goto (-21), 3) := by decide +kernel
theorem d_M_propose_53 : decode b_M_propose 53 = .ok (.iload_n 2, 1) := by decide +kernel
theorem d_M_propose_54 : decode b_M_propose 54 = .ok (.istore_n 3, 1) := by decide +kernel
theorem d_M_propose_55 : decode b_M_propose 55 = .ok (.iload_n 3, 1) := by decide +kernel
theorem d_M_propose_56 : decode b_M_propose 56 = .ok (.ifCond .le 23, 3) := by decide +kernel
theorem d_M_propose_59 : decode b_M_propose 59 = .ok (.aload_n 0, 1) := by decide +kernel
theorem d_M_propose_60 : decode b_M_propose 60 = .ok (.iload_n 1, 1) := by decide +kernel
theorem d_M_propose_61 : decode b_M_propose 61 = .ok (.iload_n 3, 1) := by decide +kernel
theorem d_M_propose_62 : decode b_M_propose 62 = .ok (.iconst 1, 1) := by decide +kernel
theorem d_M_propose_63 : decode b_M_propose 63 = .ok (.isub, 1) := by decide +kernel
theorem d_M_propose_64 : decode b_M_propose 64 = .ok (.invokevirtual 64, 3) := by decide +kernel
theorem d_M_propose_67 : decode b_M_propose 67 = .ok (.invokestatic 116, 3) := by decide +kernel
theorem d_M_propose_70 : decode b_M_propose 70 = .ok (.ifCond .eq 9, 3) := by decide +kernel
theorem d_M_propose_73 : decode b_M_propose 73 = .ok (.iinc 3 (-1), 3) := by decide +kernel
theorem d_M_propose_76 : decode b_M_propose 76 = .ok (.goto (-21), 3) := by decide +kernel
theorem d_M_propose_79 : decode b_M_propose 79 = .ok (.iload_n 2, 1) := by decide +kernel
theorem d_M_propose_80 : decode b_M_propose 80 = .ok (.iload_n 3, 1) := by decide +kernel
theorem d_M_propose_81 : decode b_M_propose 81 = .ok (.isub, 1) := by decide +kernel
theorem d_M_propose_82 : decode b_M_propose 82 = .ok (.istore 4, 2) := by decide +kernel
theorem d_M_propose_84 : decode b_M_propose 84 = .ok (.iconst 1, 1) := by decide +kernel
theorem d_M_propose_85 : decode b_M_propose 85 = .ok (.istore 5, 2) := by decide +kernel
theorem d_M_propose_87 : decode b_M_propose 87 = .ok (.iconst 1, 1) := by decide +kernel
theorem d_M_propose_88 : decode b_M_propose 88 = .ok (.istore 6, 2) := by decide +kernel
theorem d_M_propose_90 : decode b_M_propose 90 = .ok (.iload 6, 2) := by decide +kernel
theorem d_M_propose_92 : decode b_M_propose 92 = .ok (.iconst 4, 1) := by decide +kernel
theorem d_M_propose_93 : decode b_M_propose 93 = .ok (.if_icmp .gt 82, 3) := by decide +kernel
theorem d_M_propose_96 : decode b_M_propose 96 = .ok (.iload 5, 2) := by decide +kernel
theorem d_M_propose_98 : decode b_M_propose 98 = .ok (.ifCond .eq 77, 3) := by decide +kernel
theorem d_M_propose_101 : decode b_M_propose 101 = .ok (.iload 6, 2) := by decide +kernel
theorem d_M_propose_103 : decode b_M_propose 103 = .ok (.iload 4, 2) := by decide +kernel
theorem d_M_propose_105 : decode b_M_propose 105 = .ok (.ifCond .ne 7, 3) := by decide +kernel
theorem d_M_propose_108 : decode b_M_propose 108 = .ok (.iconst 1, 1) := by decide +kernel
theorem d_M_propose_109 : decode b_M_propose 109 = .ok (.goto 5, 3) := by decide +kernel
theorem d_M_propose_112 : decode b_M_propose 112 = .ok (.iload 4, 2) := by decide +kernel
theorem d_M_propose_114 : decode b_M_propose 114 = .ok (.if_icmp .gt 61, 3) := by decide +kernel
theorem d_M_propose_117 : decode b_M_propose 117 = .ok (.aload_n 0, 1) := by decide +kernel
theorem d_M_propose_118 : decode b_M_propose 118 = .ok (.invokevirtual 72, 3) := by decide +kernel
theorem d_M_propose_121 : decode b_M_propose 121 = .ok (.iconst 0, 1) := by decide +kernel
theorem d_M_propose_122 : decode b_M_propose 122 = .ok (.istore 7, 2) := by decide +kernel
theorem d_M_propose_124 : decode b_M_propose 124 = .ok (.iload 7, 2) := by decide +kernel
theorem d_M_propose_126 : decode b_M_propose 126 = .ok (.iload 6, 2) := by decide +kernel
theorem d_M_propose_128 : decode b_M_propose 128 = .ok (.if_icmp .ge 35, 3) := by decide +kernel
theorem d_M_propose_131 : decode b_M_propose 131 = .ok (.aload_n 0, 1) := by decide +kernel
theorem d_M_propose_132 : decode b_M_propose 132 = .ok (.iload 4, 2) := by decide +kernel
theorem d_M_propose_134 : decode b_M_propose 134 = .ok (.ifCond .ne 8, 3) := by decide +kernel
theorem d_M_propose_137 : decode b_M_propose 137 = .ok (.bipush 110, 2) := by decide +kernel
theorem d_M_propose_139 : decode b_M_propose 139 = .ok (.goto 15, 3) := by decide +kernel
theorem d_M_propose_142 : decode b_M_propose 142 = .ok (.aload_n 0, 1) := by decide +kernel
theorem d_M_propose_143 : decode b_M_propose 143 = .ok (.iload_n 1, 1) := by decide +kernel
theorem d_M_propose_144 : decode b_M_propose 144 = .ok (.iload_n 3, 1) := by decide +kernel
theorem d_M_propose_145 : decode b_M_propose 145 = .ok (.iload 7, 2) := by decide +kernel
theorem d_M_propose_147 : decode b_M_propose 147 = .ok (.iadd, 1) := by decide +kernel
theorem d_M_propose_148 : decode b_M_propose 148 = .ok (.invokevirtual 64, 3) := by decide +kernel
theorem d_M_propose_151 : decode b_M_propose 151 = .ok (.bipush 32, 2) := by decide +kernel
theorem d_M_propose_153 : decode b_M_propose 153 = .ok (.ior, 1) := by decide +kernel
theorem d_M_propose_154 : decode b_M_propose 154 = .ok (.invokevirtual 75, 3) := by decide +kernel
theorem d_M_propose_157 : decode b_M_propose 157 = .ok (.iinc 7 1, 3) := by decide +kernel
theorem d_M_propose_160 : decode b_M_propose 160 = .ok (.goto (-36), 3) := by decide +kernel
theorem d_M_propose_163 : decode b_M_propose 163 = .ok (.aload_n 0, 1) := by decide +kernel
theorem d_M_propose_164 : decode b_M_propose 164 = .ok (.invokevirtual 119, 3) := by decide +kernel
theorem d_M_propose_167 : decode b_M_propose 167 = .ok (.istore 5, 2) := by decide +kernel
theorem d_M_propose_169 : decode b_M_propose 169 = .ok (.iinc 6 1, 3) := by decide +kernel
theorem d_M_propose_172 : decode b_M_propose 172 = .ok (.goto (-82), 3) := by decide +kernel
theorem d_M_propose_175 : decode b_M_propose 175 = .ok (.iload 4, 2) := by decide +kernel
theorem d_M_propose_177 : decode b_M_propose 177 = .ok (.ifCond .ne 8, 3) := by decide +kernel
theorem d_M_propose_180 : decode b_M_propose 180 = .ok (.bipush 110, 2) := by decide +kernel
theorem d_M_propose_182 : decode b_M_propose 182 = .ok (.goto 12, 3) := by decide +kernel
theorem d_M_propose_185 : decode b_M_propose 185 = .ok (.aload_n 0, 1) := by decide +kernel
theorem d_M_propose_186 : decode b_M_propose 186 = .ok (.iload_n 1, 1) := by decide +kernel
theorem d_M_propose_187 : decode b_M_propose 187 = .ok (.iload_n 3, 1) := by decide +kernel
theorem d_M_propose_188 : decode b_M_propose 188 = .ok (.invokevirtual 64, 3) := by decide +kernel
theorem d_M_propose_191 : decode b_M_propose 191 = .ok (.bipush 32, 2) := by decide +kernel
theorem d_M_propose_193 : decode b_M_propose 193 = .ok (.ior, 1) := by decide +kernel
theorem d_M_propose_194 : decode b_M_propose 194 = .ok (.istore 6, 2) := by decide +kernel
theorem d_M_propose_196 : decode b_M_propose 196 = .ok (.iconst 1, 1) := by decide +kernel
theorem d_M_propose_197 : decode b_M_propose 197 = .ok (.istore 7, 2) := by decide +kernel
theorem d_M_propose_199 : decode b_M_propose 199 = .ok (.iload 7, 2) := by decide +kernel
theorem d_M_propose_201 : decode b_M_propose 201 = .ok (.bipush 99, 2) := by decide +kernel
theorem d_M_propose_203 : decode b_M_propose 203 = .ok (.if_icmp .gt 61, 3) := by decide +kernel
theorem d_M_propose_206 : decode b_M_propose 206 = .ok (.iload 5, 2) := by decide +kernel
theorem d_M_propose_208 : decode b_M_propose 208 = .ok (.ifCond .eq 56, 3) := by decide +kernel
theorem d_M_propose_211 : decode b_M_propose 211 = .ok (.aload_n 0, 1) := by decide +kernel
theorem d_M_propose_212 : decode b_M_propose 212 = .ok (.invokevirtual 72, 3) := by decide +kernel
theorem d_M_propose_215 : decode b_M_propose 215 = .ok (.aload_n 0, 1) := by decide +kernel
theorem d_M_propose_216 : decode b_M_propose 216 = .ok (.iload 6, 2) := by decide +kernel
theorem d_M_propose_218 : decode b_M_propose 218 = .ok (.invokevirtual 75, 3) := by decide +kernel
theorem d_M_propose_221 : decode b_M_propose 221 = .ok (.iload 7, 2) := by decide +kernel
theorem d_M_propose_223 : decode b_M_propose 223 = .ok (.bipush 9, 2) := by decide +kernel
theorem d_M_propose_225 : decode b_M_propose 225 = .ok (.if_icmp .le 15, 3) := by decide +kernel
theorem d_M_propose_228 : decode b_M_propose 228 = .ok (.aload_n 0, 1) := by decide +kernel
theorem d_M_propose_229 : decode b_M_propose 229 = .ok (.bipush 48, 2) := by decide +kernel
theorem d_M_propose_231 : decode b_M_propose 231 = .ok (.iload 7, 2) := by decide +kernel
theorem d_M_propose_233 : decode b_M_propose 233 = .ok (.bipush 10, 2) := by decide +kernel
theorem d_M_propose_235 : decode b_M_propose 235 = .ok (.idiv, 1) := by decide +kernel
theorem d_M_propose_236 : decode b_M_propose 236 = .ok (.iadd, 1) := by decide +kernel
theorem d_M_propose_237 : decode b_M_propose 237 = .ok (.invokevirtual 75, 3) := by decide +kernel
theorem d_M_propose_240 : decode b_M_propose 240 = .ok (.aload_n 0, 1) := by decide +kernel
theorem d_M_propose_241 : decode b_M_propose 241 = .ok (.bipush 48, 2) := by decide +kernel
theorem d_M_propose_243 : decode b_M_propose 243 = .ok (.iload 7, 2) := by decide +kernel
theorem d_M_propose_245 : decode b_M_propose 245 = .ok (.bipush 10, 2) := by decide +kernel
theorem d_M_propose_247 : decode b_M_propose 247 = .ok (.irem, 1) := by decide +kernel
theorem d_M_propose_248 : decode b_M_propose 248 = .ok (.iadd, 1) := by decide +kernel
theorem d_M_propose_249 : decode b_M_propose 249 = .ok (.invokevirtual 75, 3) := by decide +kernel
theorem d_M_propose_252 : decode b_M_propose 252 = .ok (.aload_n 0, 1) := by decide +kernel
theorem d_M_propose_253 : decode b_M_propose 253 = .ok (.invokevirtual 119, 3) := by decide +kernel
theorem d_M_propose_256 : decode b_M_propose 256 = .ok (.istore 5, 2) := by decide +kernel
theorem d_M_propose_258 : decode b_M_propose 258 = .ok (.iinc 7 1, 3) := by decide +kernel
theorem d_M_propose_261 : decode b_M_propose 261 = .ok (.goto (-62), 3) := by decide +kernel
theorem d_M_propose_264 : decode b_M_propose 264 = .ok (.aload_n 0, 1) := by decide +kernel
theorem d_M_propose_265 : decode b_M_propose 265 = .ok (.iconst 0, 1) := by decide +kernel
theorem d_M_propose_266 : decode b_M_propose 266 = .ok (.putfield 122, 3) := by decide +kernel
theorem d_M_propose_269 : decode b_M_propose 269 = .ok (.iconst 0, 1) := by decide +kernel
theorem d_M_propose_270 : decode b_M_propose 270 = .ok (.istore 7, 2) := by decide +kernel
theorem d_M_propose_272 : decode b_M_propose 272 = .ok (.iload 7, 2) := by decide +kernel
theorem d_M_propose_274 : decode b_M_propose 274 = .ok (.aload_n 0, 1) := by decide +kernel
theorem d_M_propose_275 : decode b_M_propose 275 = .ok (.getfield 61, 3) := by decide +kernel
theorem d_M_propose_278 : decode b_M_propose 278 = .ok (.if_icmp .ge 32, 3) := by decide +kernel
theorem d_M_propose_281 : decode b_M_propose 281 = .ok (.aload_n 0, 1) := by decide +kernel
theorem d_M_propose_282 : decode b_M_propose 282 = .ok (.getfield 35, 3) := by decide +kernel
theorem d_M_propose_285 : decode b_M_propose 285 = .ok (.aload_n 0, 1) := by decide +kernel
theorem d_M_propose_286 : decode b_M_propose 286 = .ok (.dup, 1) := by decide +kernel
theorem d_M_propose_287 : decode b_M_propose 287 = .ok (.getfield 122, 3) := by decide +kernel
theorem d_M_propose_290 : decode b_M_propose 290 = .ok (.dup_x1, 1) := by decide +kernel
theorem d_M_propose_291 : decode b_M_propose 291 = .ok (.iconst 1, 1) := by decide +kernel
theorem d_M_propose_292 : decode b_M_propose 292 = .ok (.iadd, 1) := by decide +kernel
theorem d_M_propose_293 : decode b_M_propose 293 = .ok (.putfield 122, 3) := by decide +kernel
theorem d_M_propose_296 : decode b_M_propose 296 = .ok (.aload_n 0, 1) := by decide +kernel
theorem d_M_propose_297 : decode b_M_propose 297 = .ok (.getfield 41, 3) := by decide +kernel
theorem d_M_propose_300 : decode b_M_propose 300 = .ok (.iload 7, 2) := by decide +kernel
theorem d_M_propose_302 : decode b_M_propose 302 = .ok (.baload, 1) := by decide +kernel
theorem d_M_propose_303 : decode b_M_propose 303 = .ok (.bastore, 1) := by decide +kernel
theorem d_M_propose_304 : decode b_M_propose 304 = .ok (.iinc 7 1, 3) := by decide +kernel
theorem d_M_propose_307 : decode b_M_propose 307 = .ok (.goto (-35), 3) := by decide +kernel
theorem d_M_propose_310 : decode b_M_propose 310 = .ok (.aload_n 0, 1) := by decide +kernel
theorem d_M_propose_311 : decode b_M_propose 311 = .ok (.getfield 122, 3) := by decide +kernel
theorem d_M_propose_314 : decode b_M_propose 314 = .ok (.ireturn, 1) := by decide +kernel
theorem d_M_print_0 : decode b_M_print 0 = .ok (.aload_n 0, 1) := by decide +kernel
theorem d_M_print_1 : decode b_M_print 1 = .ok (.aload_n 0, 1) := by decide +kernel
theorem d_M_print_2 : decode b_M_print 2 = .ok (.iload_n 1, 1) := by decide +kernel
theorem d_M_print_3 : decode b_M_print 3 = .ok (.invokevirtual 89, 3) := by decide +kernel
theorem d_M_print_6 : decode b_M_print 6 = .ok (.ifCond .eq 7, 3) := by decide +kernel
theorem d_M_print_9 : decode b_M_print 9 = .ok (.iconst 1, 1) := by decide +kernel
theorem d_M_print_10 : decode b_M_print 10 = .ok (.goto 4, 3) := by decide +kernel
theorem d_M_print_13 : decode b_M_print 13 = .ok (.iconst 0, 1) := by decide +kernel
theorem d_M_print_14 : decode b_M_print 14 = .ok (.invokevirtual 57, 3) := by decide +kernel
theorem d_M_print_17 : decode b_M_print 17 = .ok (.ifCond .eq 5, 3) := by decide +kernel
theorem d_M_print_20 : decode b_M_print 20 = .ok (.iconst 0, 1) := by decide +kernel
theorem d_M_print_21 : decode b_M_print 21 = .ok (.ireturn, 1) := by decide +kernel
theorem d_M_print_22 : decode b_M_print 22 = .ok (.aload_n 0, 1) := by decide +kernel
theorem d_M_print_23 : decode b_M_print 23 = .ok (.iload_n 1, 1) := by decide +kernel
theorem d_M_print_24 : decode b_M_print 24 = .ok (.invokevirtual 106, 3) := by decide +kernel
theorem d_M_print_27 : decode b_M_print 27 = .ok (.istore_n 2, 1) := by decide +kernel
theorem d_M_print_28 : decode b_M_print 28 = .ok (.aload_n 0, 1) := by decide +kernel
theorem d_M_print_29 : decode b_M_print 29 = .ok (.iload_n 2, 1) := by decide +kernel
theorem d_M_print_30 : decode b_M_print 30 = .ok (.invokevirtual 113, 3) := by decide +kernel
theorem d_M_print_33 : decode b_M_print 33 = .ok (.istore_n 3, 1) := by decide +kernel
theorem d_M_print_34 : decode b_M_print 34 = .ok (.aload_n 0, 1) := by decide +kernel
theorem d_M_print_35 : decode b_M_print 35 = .ok (.iconst 0, 1) := by decide +kernel
theorem d_M_print_36 : decode b_M_print 36 = .ok (.putfield 122, 3) := by decide +kernel
theorem d_M_print_39 : decode b_M_print 39 = .ok (.iload_n 3, 1) := by decide +kernel
theorem d_M_print_40 : decode b_M_print 40 = .ok (.ifCond .ge 86, 3) := by decide +kernel
theorem d_M_print_43 : decode b_M_print 43 = .ok (.aload_n 0, 1) := by decide +kernel
theorem d_M_print_44 : decode b_M_print 44 = .ok (.getfield 35, 3) := by decide +kernel
theorem d_M_print_47 : decode b_M_print 47 = .ok (.aload_n 0, 1) := by decide +kernel
theorem d_M_print_48 : decode b_M_print 48 = .ok (.dup, 1) := by decide +kernel
theorem d_M_print_49 : decode b_M_print 49 = .ok (.getfield 122, 3) := by decide +kernel
theorem d_M_print_52 : decode b_M_print 52 = .ok (.dup_x1, 1) := by decide +kernel
theorem d_M_print_53 : decode b_M_print 53 = .ok (.iconst 1, 1) := by decide +kernel
theorem d_M_print_54 : decode b_M_print 54 = .ok (.iadd, 1) := by decide +kernel
theorem d_M_print_55 : decode b_M_print 55 = .ok (.putfield 122, 3) := by decide +kernel
theorem d_M_print_58 : decode b_M_print 58 = .ok (.bipush 60, 2) := by decide +kernel
theorem d_M_print_60 : decode b_M_print 60 = .ok (.bastore, 1) := by decide +kernel
theorem d_M_print_61 : decode b_M_print 61 = .ok (.iconst 0, 1) := by decide +kernel
theorem d_M_print_62 : decode b_M_print 62 = .ok (.istore 4, 2) := by decide +kernel
theorem d_M_print_64 : decode b_M_print 64 = .ok (.iload 4, 2) := by decide +kernel
theorem d_M_print_66 : decode b_M_print 66 = .ok (.aload_n 0, 1) := by decide +kernel
theorem d_M_print_67 : decode b_M_print 67 = .ok (.getfield 16, 3) := by decide +kernel
theorem d_M_print_70 : decode b_M_print 70 = .ok (.iload_n 1, 1) := by decide +kernel
theorem d_M_print_71 : decode b_M_print 71 = .ok (.iaload, 1) := by decide +kernel
theorem d_M_print_72 : decode b_M_print 72 = .ok (.if_icmp .ge 33, 3) := by decide +kernel
theorem d_M_print_75 : decode b_M_print 75 = .ok (.aload_n 0, 1) := by decide +kernel
theorem d_M_print_76 : decode b_M_print 76 = .ok (.getfield 35, 3) := by decide +kernel
theorem d_M_print_79 : decode b_M_print 79 = .ok (.aload_n 0, 1) := by decide +kernel
theorem d_M_print_80 : decode b_M_print 80 = .ok (.dup, 1) := by decide +kernel
theorem d_M_print_81 : decode b_M_print 81 = .ok (.getfield 122, 3) := by decide +kernel
theorem d_M_print_84 : decode b_M_print 84 = .ok (.dup_x1, 1) := by decide +kernel
theorem d_M_print_85 : decode b_M_print 85 = .ok (.iconst 1, 1) := by decide +kernel
theorem d_M_print_86 : decode b_M_print 86 = .ok (.iadd, 1) := by decide +kernel
theorem d_M_print_87 : decode b_M_print 87 = .ok (.putfield 122, 3) := by decide +kernel
theorem d_M_print_90 : decode b_M_print 90 = .ok (.aload_n 0, 1) := by decide +kernel
theorem d_M_print_91 : decode b_M_print 91 = .ok (.iload_n 1, 1) := by decide +kernel
theorem d_M_print_92 : decode b_M_print 92 = .ok (.iload 4, 2) := by decide +kernel
theorem d_M_print_94 : decode b_M_print 94 = .ok (.invokevirtual 64, 3) := by decide +kernel
theorem d_M_print_97 : decode b_M_print 97 = .ok (.i2b, 1) := by decide +kernel
theorem d_M_print_98 : decode b_M_print 98 = .ok (.bastore, 1) := by decide +kernel
theorem d_M_print_99 : decode b_M_print 99 = .ok (.iinc 4 1, 3) := by decide +kernel
theorem d_M_print_102 : decode b_M_print 102 = .ok (.goto (-38), 3) := by decide +kernel
theorem d_M_print_105 : decode b_M_print 105 = .ok (.aload_n 0, 1) := by decide +kernel
theorem d_M_print_106 : decode b_M_print 106 = .ok (.getfield 35, 3) := by decide +kernel
theorem d_M_print_109 : decode b_M_print 109 = .ok (.aload_n 0, 1) := by decide +kernel
theorem d_M_print_110 : decode b_M_print 110 = .ok (.dup, 1) := by decide +kernel
theorem d_M_print_111 : decode b_M_print 111 = .ok (.getfield 122, 3) := by decide +kernel
theorem d_M_print_114 : decode b_M_print 114 = .ok (.dup_x1, 1) := by decide +kernel
theorem d_M_print_115 : decode b_M_print 115 = .ok (.iconst 1, 1) := by decide +kernel
theorem d_M_print_116 : decode b_M_print 116 = .ok (.iadd, 1) := by decide +kernel
theorem d_M_print_117 : decode b_M_print 117 = .ok (.putfield 122, 3) := by decide +kernel
theorem d_M_print_120 : decode b_M_print 120 = .ok (.bipush 62, 2) := by decide +kernel
theorem d_M_print_122 : decode b_M_print 122 = .ok (.bastore, 1) := by decide +kernel
theorem d_M_print_123 : decode b_M_print 123 = .ok (.goto 114, 3) := by decide +kernel
theorem d_M_print_126 : decode b_M_print 126 = .ok (.iconst 0, 1) := by decide +kernel
theorem d_M_print_127 : decode b_M_print 127 = .ok (.istore 4, 2) := by decide +kernel
theorem d_M_print_129 : decode b_M_print 129 = .ok (.iload 4, 2) := by decide +kernel
theorem d_M_print_131 : decode b_M_print 131 = .ok (.aload_n 0, 1) := by decide +kernel
theorem d_M_print_132 : decode b_M_print 132 = .ok (.getfield 16, 3) := by decide +kernel
theorem d_M_print_135 : decode b_M_print 135 = .ok (.iload_n 3, 1) := by decide +kernel
theorem d_M_print_136 : decode b_M_print 136 = .ok (.iaload, 1) := by decide +kernel
theorem d_M_print_137 : decode b_M_print 137 = .ok (.if_icmp .ge 33, 3) := by decide +kernel
theorem d_M_print_140 : decode b_M_print 140 = .ok (.aload_n 0, 1) := by decide +kernel
theorem d_M_print_141 : decode b_M_print 141 = .ok (.getfield 35, 3) := by decide +kernel
theorem d_M_print_144 : decode b_M_print 144 = .ok (.aload_n 0, 1) := by decide +kernel
theorem d_M_print_145 : decode b_M_print 145 = .ok (.dup, 1) := by decide +kernel
theorem d_M_print_146 : decode b_M_print 146 = .ok (.getfield 122, 3) := by decide +kernel
theorem d_M_print_149 : decode b_M_print 149 = .ok (.dup_x1, 1) := by decide +kernel
theorem d_M_print_150 : decode b_M_print 150 = .ok (.iconst 1, 1) := by decide +kernel
theorem d_M_print_151 : decode b_M_print 151 = .ok (.iadd, 1) := by decide +kernel
theorem d_M_print_152 : decode b_M_print 152 = .ok (.putfield 122, 3) := by decide +kernel
theorem d_M_print_155 : decode b_M_print 155 = .ok (.aload_n 0, 1) := by decide +kernel
theorem d_M_print_156 : decode b_M_print 156 = .ok (.iload_n 3, 1) := by decide +kernel
theorem d_M_print_157 : decode b_M_print 157 = .ok (.iload 4, 2) := by decide +kernel
theorem d_M_print_159 : decode b_M_print 159 = .ok (.invokevirtual 64, 3) := by decide +kernel
theorem d_M_print_162 : decode b_M_print 162 = .ok (.i2b, 1) := by decide +kernel
theorem d_M_print_163 : decode b_M_print 163 = .ok (.bastore, 1) := by decide +kernel
theorem d_M_print_164 : decode b_M_print 164 = .ok (.iinc 4 1, 3) := by decide +kernel
theorem d_M_print_167 : decode b_M_print 167 = .ok (.goto (-38), 3) := by decide +kernel
theorem d_M_print_170 : decode b_M_print 170 = .ok (.aload_n 0, 1) := by decide +kernel
theorem d_M_print_171 : decode b_M_print 171 = .ok (.getfield 35, 3) := by decide +kernel
theorem d_M_print_174 : decode b_M_print 174 = .ok (.aload_n 0, 1) := by decide +kernel
theorem d_M_print_175 : decode b_M_print 175 = .ok (.dup, 1) := by decide +kernel
theorem d_M_print_176 : decode b_M_print 176 = .ok (.getfield 122, 3) := by decide +kernel
theorem d_M_print_179 : decode b_M_print 179 = .ok (.dup_x1, 1) := by decide +kernel
theorem d_M_print_180 : decode b_M_print 180 = .ok (.iconst 1, 1) := by decide +kernel
theorem d_M_print_181 : decode b_M_print 181 = .ok (.iadd, 1) := by decide +kernel
theorem d_M_print_182 : decode b_M_print 182 = .ok (.putfield 122, 3) := by decide +kernel
theorem d_M_print_185 : decode b_M_print 185 = .ok (.bipush 58, 2) := by decide +kernel
theorem d_M_print_187 : decode b_M_print 187 = .ok (.bastore, 1) := by decide +kernel
theorem d_M_print_188 : decode b_M_print 188 = .ok (.aload_n 0, 1) := by decide +kernel
theorem d_M_print_189 : decode b_M_print 189 = .ok (.getfield 16, 3) := by decide +kernel
theorem d_M_print_192 : decode b_M_print 192 = .ok (.iload_n 2, 1) := by decide +kernel
theorem d_M_print_193 : decode b_M_print 193 = .ok (.iaload, 1) := by decide +kernel
theorem d_M_print_194 : decode b_M_print 194 = .ok (.istore 4, 2) := by decide +kernel
theorem d_M_print_196 : decode b_M_print 196 = .ok (.iload 4, 2) := by decide +kernel
theorem d_M_print_198 : decode b_M_print 198 = .ok (.aload_n 0, 1) := by decide +kernel
theorem d_M_print_199 : decode b_M_print 199 = .ok (.getfield 16, 3) := by decide +kernel
theorem d_M_print_202 : decode b_M_print 202 = .ok (.iload_n 1, 1) := by decide +kernel
theorem d_M_print_203 : decode b_M_print 203 = .ok (.iaload, 1) := by decide +kernel
theorem d_M_print_204 : decode b_M_print 204 = .ok (.if_icmp .ge 33, 3) := by decide +kernel
theorem d_M_print_207 : decode b_M_print 207 = .ok (.aload_n 0, 1) := by decide +kernel
theorem d_M_print_208 : decode b_M_print 208 = .ok (.getfield 35, 3) := by decide +kernel
theorem d_M_print_211 : decode b_M_print 211 = .ok (.aload_n 0, 1) := by decide +kernel
theorem d_M_print_212 : decode b_M_print 212 = .ok (.dup, 1) := by decide +kernel
theorem d_M_print_213 : decode b_M_print 213 = .ok (.getfield 122, 3) := by decide +kernel
theorem d_M_print_216 : decode b_M_print 216 = .ok (.dup_x1, 1) := by decide +kernel
theorem d_M_print_217 : decode b_M_print 217 = .ok (.iconst 1, 1) := by decide +kernel
theorem d_M_print_218 : decode b_M_print 218 = .ok (.iadd, 1) := by decide +kernel
theorem d_M_print_219 : decode b_M_print 219 = .ok (.putfield 122, 3) := by decide +kernel
theorem d_M_print_222 : decode b_M_print 222 = .ok (.aload_n 0, 1) := by decide +kernel
theorem d_M_print_223 : decode b_M_print 223 = .ok (.iload_n 1, 1) := by decide +kernel
theorem d_M_print_224 : decode b_M_print 224 = .ok (.iload 4, 2) := by decide +kernel
theorem d_M_print_226 : decode b_M_print 226 = .ok (.invokevirtual 64, 3) := by decide +kernel
theorem d_M_print_229 : decode b_M_print 229 = .ok (.i2b, 1) := by decide +kernel
theorem d_M_print_230 : decode b_M_print 230 = .ok (.bastore, 1) := by decide +kernel
theorem d_M_print_231 : decode b_M_print 231 = .ok (.iinc 4 1, 3) := by decide +kernel
theorem d_M_print_234 : decode b_M_print 234 = .ok (.goto (-38), 3) := by decide +kernel
theorem d_M_print_237 : decode b_M_print 237 = .ok (.aload_n 0, 1) := by decide +kernel
theorem d_M_print_238 : decode b_M_print 238 = .ok (.getfield 122, 3) := by decide +kernel
theorem d_M_print_241 : decode b_M_print 241 = .ok (.ireturn, 1) := by decide +kernel
theorem d_M_letter_0 : decode b_M_letter 0 = .ok (.aload_n 0, 1) := by decide +kernel
theorem d_M_letter_1 : decode b_M_letter 1 = .ok (.iconst 0, 1) := by decide +kernel
theorem d_M_letter_2 : decode b_M_letter 2 = .ok (.putfield 47, 3) := by decide +kernel
theorem d_M_letter_5 : decode b_M_letter 5 = .ok (.iload_n 1, 1) := by decide +kernel
theorem d_M_letter_6 : decode b_M_letter 6 = .ok (.ifCond .lt 11, 3) := by decide +kernel
theorem d_M_letter_9 : decode b_M_letter 9 = .ok (.iload_n 1, 1) := by decide +kernel
theorem d_M_letter_10 : decode b_M_letter 10 = .ok (.aload_n 0, 1) := by decide +kernel
theorem d_M_letter_11 : decode b_M_letter 11 = .ok (.getfield 122, 3) := by decide +kernel
theorem d_M_letter_14 : decode b_M_letter 14 = .ok (.if_icmp .lt 7, 3) := by decide +kernel
theorem d_M_letter_17 : decode b_M_letter 17 = .ok (.iconst 0, 1) := by decide +kernel
theorem d_M_letter_18 : decode b_M_letter 18 = .ok (.goto 10, 3) := by decide +kernel
theorem d_M_letter_21 : decode b_M_letter 21 = .ok (.aload_n 0, 1) := by decide +kernel
theorem d_M_letter_22 : decode b_M_letter 22 = .ok (.getfield 35, 3) := by decide +kernel
theorem d_M_letter_25 : decode b_M_letter 25 = .ok (.iload_n 1, 1) := by decide +kernel
theorem d_M_letter_26 : decode b_M_letter 26 = .ok (.baload, 1) := by decide +kernel
theorem d_M_letter_27 : decode b_M_letter 27 = .ok (.i2c, 1) := by decide +kernel
theorem d_M_letter_28 : decode b_M_letter 28 = .ok (.ireturn, 1) := by decide +kernel
theorem d_M_rowOf_0 : decode b_M_rowOf 0 = .ok (.iconst 0, 1) := by decide +kernel
theorem d_M_rowOf_1 : decode b_M_rowOf 1 = .ok (.istore_n 2, 1) := by decide +kernel
theorem d_M_rowOf_2 : decode b_M_rowOf 2 = .ok (.iload_n 2, 1) := by decide +kernel
theorem d_M_rowOf_3 : decode b_M_rowOf 3 = .ok (.aload_n 0, 1) := by decide +kernel
theorem d_M_rowOf_4 : decode b_M_rowOf 4 = .ok (.getfield 125, 3) := by decide +kernel
theorem d_M_rowOf_7 : decode b_M_rowOf 7 = .ok (.if_icmp .ge 23, 3) := by decide +kernel
theorem d_M_rowOf_10 : decode b_M_rowOf 10 = .ok (.aload_n 0, 1) := by decide +kernel
theorem d_M_rowOf_11 : decode b_M_rowOf 11 = .ok (.getfield 29, 3) := by decide +kernel
theorem d_M_rowOf_14 : decode b_M_rowOf 14 = .ok (.iconst 3, 1) := by decide +kernel
theorem d_M_rowOf_15 : decode b_M_rowOf 15 = .ok (.iload_n 2, 1) := by decide +kernel
theorem d_M_rowOf_16 : decode b_M_rowOf 16 = .ok (.imul, 1) := by decide +kernel
theorem d_M_rowOf_17 : decode b_M_rowOf 17 = .ok (.iaload, 1) := by decide +kernel
theorem d_M_rowOf_18 : decode b_M_rowOf 18 = .ok (.iload_n 1, 1) := by decide +kernel
theorem d_M_rowOf_19 : decode b_M_rowOf 19 = .ok (.if_icmp .ne 5, 3) := by decide +kernel
theorem d_M_rowOf_22 : decode b_M_rowOf 22 = .ok (.iload_n 2, 1) := by decide +kernel
theorem d_M_rowOf_23 : decode b_M_rowOf 23 = .ok (.ireturn, 1) := by decide +kernel
theorem d_M_rowOf_24 : decode b_M_rowOf 24 = .ok (.iinc 2 1, 3) := by decide +kernel
theorem d_M_rowOf_27 : decode b_M_rowOf 27 = .ok (.goto (-25), 3) := by decide +kernel
theorem d_M_rowOf_30 : decode b_M_rowOf 30 = .ok (.iconst (-1), 1) := by decide +kernel
theorem d_M_rowOf_31 : decode b_M_rowOf 31 = .ok (.ireturn, 1) := by decide +kernel
theorem d_M_row_0 : decode b_M_row 0 = .ok (.aload_n 0, 1) := by decide +kernel
theorem d_M_row_1 : decode b_M_row 1 = .ok (.aload_n 0, 1) := by decide +kernel
theorem d_M_row_2 : decode b_M_row 2 = .ok (.iload_n 1, 1) := by decide +kernel
theorem d_M_row_3 : decode b_M_row 3 = .ok (.invokevirtual 89, 3) := by decide +kernel
theorem d_M_row_6 : decode b_M_row 6 = .ok (.ifCond .ne 19, 3) := by decide +kernel
theorem d_M_row_9 : decode b_M_row 9 = .ok (.aload_n 0, 1) := by decide +kernel
theorem d_M_row_10 : decode b_M_row 10 = .ok (.iload_n 2, 1) := by decide +kernel
theorem d_M_row_11 : decode b_M_row 11 = .ok (.invokevirtual 89, 3) := by decide +kernel
theorem d_M_row_14 : decode b_M_row 14 = .ok (.ifCond .ne 11, 3) := by decide +kernel
theorem d_M_row_17 : decode b_M_row 17 = .ok (.aload_n 0, 1) := by decide +kernel
theorem d_M_row_18 : decode b_M_row 18 = .ok (.iload_n 3, 1) := by decide +kernel
theorem d_M_row_19 : decode b_M_row 19 = .ok (.invokevirtual 89, 3) := by decide +kernel
theorem d_M_row_22 : decode b_M_row 22 = .ok (.ifCond .eq 7, 3) := by decide +kernel
theorem d_M_row_25 : decode b_M_row 25 = .ok (.iconst 1, 1) := by decide +kernel
theorem d_M_row_26 : decode b_M_row 26 = .ok (.goto 16, 3) := by decide +kernel
theorem d_M_row_29 : decode b_M_row 29 = .ok (.aload_n 0, 1) := by decide +kernel
theorem d_M_row_30 : decode b_M_row 30 = .ok (.iload_n 1, 1) := by decide +kernel
theorem d_M_row_31 : decode b_M_row 31 = .ok (.invokevirtual 106, 3) := by decide +kernel
theorem d_M_row_34 : decode b_M_row 34 = .ok (.ifCond .ge 7, 3) := by decide +kernel
theorem d_M_row_37 : decode b_M_row 37 = .ok (.iconst 2, 1) := by decide +kernel
theorem d_M_row_38 : decode b_M_row 38 = .ok (.goto 4, 3) := by decide +kernel
theorem d_M_row_41 : decode b_M_row 41 = .ok (.iconst 0, 1) := by decide +kernel
theorem d_M_row_42 : decode b_M_row 42 = .ok (.invokevirtual 57, 3) := by decide +kernel
theorem d_M_row_45 : decode b_M_row 45 = .ok (.ifCond .eq 5, 3) := by decide +kernel
theorem d_M_row_48 : decode b_M_row 48 = .ok (.iconst 0, 1) := by decide +kernel
theorem d_M_row_49 : decode b_M_row 49 = .ok (.ireturn, 1) := by decide +kernel
theorem d_M_row_50 : decode b_M_row 50 = .ok (.aload_n 0, 1) := by decide +kernel
theorem d_M_row_51 : decode b_M_row 51 = .ok (.iload_n 1, 1) := by decide +kernel
theorem d_M_row_52 : decode b_M_row 52 = .ok (.invokevirtual 128, 3) := by decide +kernel
theorem d_M_row_55 : decode b_M_row 55 = .ok (.istore 4, 2) := by decide +kernel
theorem d_M_row_57 : decode b_M_row 57 = .ok (.iload 4, 2) := by decide +kernel
theorem d_M_row_59 : decode b_M_row 59 = .ok (.ifCond .lt 16, 3) := by decide +kernel
theorem d_M_row_62 : decode b_M_row 62 = .ok (.aload_n 0, 1) := by decide +kernel
theorem d_M_row_63 : decode b_M_row 63 = .ok (.iconst 2, 1) := by decide +kernel
theorem d_M_row_64 : decode b_M_row 64 = .ok (.iload 4, 2) := by decide +kernel
theorem d_M_row_66 : decode b_M_row 66 = .ok (.iload_n 1, 1) := by decide +kernel
theorem d_M_row_67 : decode b_M_row 67 = .ok (.invokevirtual 95, 3) := by decide +kernel
theorem d_M_row_70 : decode b_M_row 70 = .ok (.iconst (-1), 1) := by decide +kernel
theorem d_M_row_71 : decode b_M_row 71 = .ok (.iload 4, 2) := by decide +kernel
theorem d_M_row_73 : decode b_M_row 73 = .ok (.isub, 1) := by decide +kernel
theorem d_M_row_74 : decode b_M_row 74 = .ok (.ireturn, 1) := by decide +kernel
theorem d_M_row_75 : decode b_M_row 75 = .ok (.aload_n 0, 1) := by decide +kernel
theorem d_M_row_76 : decode b_M_row 76 = .ok (.aload_n 0, 1) := by decide +kernel
theorem d_M_row_77 : decode b_M_row 77 = .ok (.getfield 125, 3) := by decide +kernel
theorem d_M_row_80 : decode b_M_row 80 = .ok (.bipush 40, 2) := by decide +kernel
theorem d_M_row_82 : decode b_M_row 82 = .ok (.if_icmp .ne 7, 3) := by decide +kernel
theorem d_M_row_85 : decode b_M_row 85 = .ok (.iconst 3, 1) := by decide +kernel
theorem d_M_row_86 : decode b_M_row 86 = .ok (.goto 4, 3) := by decide +kernel
theorem d_M_row_89 : decode b_M_row 89 = .ok (.iconst 0, 1) := by decide +kernel
theorem d_M_row_90 : decode b_M_row 90 = .ok (.invokevirtual 57, 3) := by decide +kernel
theorem d_M_row_93 : decode b_M_row 93 = .ok (.ifCond .eq 5, 3) := by decide +kernel
theorem d_M_row_96 : decode b_M_row 96 = .ok (.iconst 0, 1) := by decide +kernel
theorem d_M_row_97 : decode b_M_row 97 = .ok (.ireturn, 1) := by decide +kernel
theorem d_M_row_98 : decode b_M_row 98 = .ok (.aload_n 0, 1) := by decide +kernel
theorem d_M_row_99 : decode b_M_row 99 = .ok (.getfield 29, 3) := by decide +kernel
theorem d_M_row_102 : decode b_M_row 102 = .ok (.iconst 3, 1) := by decide +kernel
theorem d_M_row_103 : decode b_M_row 103 = .ok (.aload_n 0, 1) := by decide +kernel
theorem d_M_row_104 : decode b_M_row 104 = .ok (.getfield 125, 3) := by decide +kernel
theorem d_M_row_107 : decode b_M_row 107 = .ok (.imul, 1) := by decide +kernel
theorem d_M_row_108 : decode b_M_row 108 = .ok (.iload_n 1, 1) := by decide +kernel
theorem d_M_row_109 : decode b_M_row 109 = .ok (.iastore, 1) := by decide +kernel
theorem d_M_row_110 : decode b_M_row 110 = .ok (.aload_n 0, 1) := by decide +kernel
theorem d_M_row_111 : decode b_M_row 111 = .ok (.getfield 29, 3) := by decide +kernel
theorem d_M_row_114 : decode b_M_row 114 = .ok (.iconst 3, 1) := by decide +kernel
theorem d_M_row_115 : decode b_M_row 115 = .ok (.aload_n 0, 1) := by decide +kernel
theorem d_M_row_116 : decode b_M_row 116 = .ok (.getfield 125, 3) := by decide +kernel
theorem d_M_row_119 : decode b_M_row 119 = .ok (.imul, 1) := by decide +kernel
theorem d_M_row_120 : decode b_M_row 120 = .ok (.iconst 1, 1) := by decide +kernel
theorem d_M_row_121 : decode b_M_row 121 = .ok (.iadd, 1) := by decide +kernel
theorem d_M_row_122 : decode b_M_row 122 = .ok (.iload_n 2, 1) := by decide +kernel
theorem d_M_row_123 : decode b_M_row 123 = .ok (.iastore, 1) := by decide +kernel
theorem d_M_row_124 : decode b_M_row 124 = .ok (.aload_n 0, 1) := by decide +kernel
theorem d_M_row_125 : decode b_M_row 125 = .ok (.getfield 29, 3) := by decide +kernel
theorem d_M_row_128 : decode b_M_row 128 = .ok (.iconst 3, 1) := by decide +kernel
theorem d_M_row_129 : decode b_M_row 129 = .ok (.aload_n 0, 1) := by decide +kernel
theorem d_M_row_130 : decode b_M_row 130 = .ok (.getfield 125, 3) := by decide +kernel
theorem d_M_row_133 : decode b_M_row 133 = .ok (.imul, 1) := by decide +kernel
theorem d_M_row_134 : decode b_M_row 134 = .ok (.iconst 2, 1) := by decide +kernel
theorem d_M_row_135 : decode b_M_row 135 = .ok (.iadd, 1) := by decide +kernel
theorem d_M_row_136 : decode b_M_row 136 = .ok (.iload_n 3, 1) := by decide +kernel
theorem d_M_row_137 : decode b_M_row 137 = .ok (.iastore, 1) := by decide +kernel
theorem d_M_row_138 : decode b_M_row 138 = .ok (.aload_n 0, 1) := by decide +kernel
theorem d_M_row_139 : decode b_M_row 139 = .ok (.dup, 1) := by decide +kernel
theorem d_M_row_140 : decode b_M_row 140 = .ok (.getfield 125, 3) := by decide +kernel
theorem d_M_row_143 : decode b_M_row 143 = .ok (.dup_x1, 1) := by decide +kernel
theorem d_M_row_144 : decode b_M_row 144 = .ok (.iconst 1, 1) := by decide +kernel
theorem d_M_row_145 : decode b_M_row 145 = .ok (.iadd, 1) := by decide +kernel
theorem d_M_row_146 : decode b_M_row 146 = .ok (.putfield 125, 3) := by decide +kernel
theorem d_M_row_149 : decode b_M_row 149 = .ok (.ireturn, 1) := by decide +kernel
theorem d_M_told2_0 : decode b_M_told2 0 = .ok (.aload_n 0, 1) := by decide +kernel
theorem d_M_told2_1 : decode b_M_told2 1 = .ok (.iload_n 1, 1) := by decide +kernel
theorem d_M_told2_2 : decode b_M_told2 2 = .ok (.ifCond .lt 11, 3) := by decide +kernel
theorem d_M_told2_5 : decode b_M_told2 5 = .ok (.iload_n 1, 1) := by decide +kernel
theorem d_M_told2_6 : decode b_M_told2 6 = .ok (.aload_n 0, 1) := by decide +kernel
theorem d_M_told2_7 : decode b_M_told2 7 = .ok (.getfield 125, 3) := by decide +kernel
theorem d_M_told2_10 : decode b_M_told2 10 = .ok (.if_icmp .lt 7, 3) := by decide +kernel
theorem d_M_told2_13 : decode b_M_told2 13 = .ok (.iconst 1, 1) := by decide +kernel
theorem d_M_told2_14 : decode b_M_told2 14 = .ok (.goto 17, 3) := by decide +kernel
theorem d_M_told2_17 : decode b_M_told2 17 = .ok (.iload_n 2, 1) := by decide +kernel
theorem d_M_told2_18 : decode b_M_told2 18 = .ok (.ifCond .lt 8, 3) := by decide +kernel
theorem d_M_told2_21 : decode b_M_told2 21 = .ok (.iload_n 2, 1) := by decide +kernel
theorem d_M_told2_22 : decode b_M_told2 22 = .ok (.iconst 2, 1) := by decide +kernel
theorem d_M_told2_23 : decode b_M_told2 23 = .ok (.if_icmp .le 7, 3) := by decide +kernel
theorem d_M_told2_26 : decode b_M_told2 26 = .ok (.iconst 2, 1) := by decide +kernel
theorem d_M_told2_27 : decode b_M_told2 27 = .ok (.goto 4, 3) := by decide +kernel
theorem d_M_told2_30 : decode b_M_told2 30 = .ok (.iconst 0, 1) := by decide +kernel
theorem d_M_told2_31 : decode b_M_told2 31 = .ok (.invokevirtual 57, 3) := by decide +kernel
theorem d_M_told2_34 : decode b_M_told2 34 = .ok (.ifCond .eq 7, 3) := by decide +kernel
theorem d_M_told2_37 : decode b_M_told2 37 = .ok (.iconst 0, 1) := by decide +kernel
theorem d_M_told2_38 : decode b_M_told2 38 = .ok (.goto 13, 3) := by decide +kernel
theorem d_M_told2_41 : decode b_M_told2 41 = .ok (.aload_n 0, 1) := by decide +kernel
theorem d_M_told2_42 : decode b_M_told2 42 = .ok (.getfield 29, 3) := by decide +kernel
theorem d_M_told2_45 : decode b_M_told2 45 = .ok (.iconst 3, 1) := by decide +kernel
theorem d_M_told2_46 : decode b_M_told2 46 = .ok (.iload_n 1, 1) := by decide +kernel
theorem d_M_told2_47 : decode b_M_told2 47 = .ok (.imul, 1) := by decide +kernel
theorem d_M_told2_48 : decode b_M_told2 48 = .ok (.iload_n 2, 1) := by decide +kernel
theorem d_M_told2_49 : decode b_M_told2 49 = .ok (.iadd, 1) := by decide +kernel
theorem d_M_told2_50 : decode b_M_told2 50 = .ok (.iaload, 1) := by decide +kernel
theorem d_M_told2_51 : decode b_M_told2 51 = .ok (.ireturn, 1) := by decide +kernel
theorem d_M_document_0 : decode b_M_document 0 = .ok (.aload_n 0, 1) := by decide +kernel
theorem d_M_document_1 : decode b_M_document 1 = .ok (.aload_n 0, 1) := by decide +kernel
theorem d_M_document_2 : decode b_M_document 2 = .ok (.iload_n 1, 1) := by decide +kernel
theorem d_M_document_3 : decode b_M_document 3 = .ok (.invokevirtual 89, 3) := by decide +kernel
theorem d_M_document_6 : decode b_M_document 6 = .ok (.ifCond .ne 7, 3) := by decide +kernel
theorem d_M_document_9 : decode b_M_document 9 = .ok (.iload_n 2, 1) := by decide +kernel
theorem d_M_document_10 : decode b_M_document 10 = .ok (.ifCond .ge 7, 3) := by decide +kernel
theorem d_M_document_13 : decode b_M_document 13 = .ok (.iconst 1, 1) := by decide +kernel
theorem d_M_document_14 : decode b_M_document 14 = .ok (.goto 4, 3) := by decide +kernel
theorem d_M_document_17 : decode b_M_document 17 = .ok (.iconst 0, 1) := by decide +kernel
theorem d_M_document_18 : decode b_M_document 18 = .ok (.invokevirtual 57, 3) := by decide +kernel
theorem d_M_document_21 : decode b_M_document 21 = .ok (.ifCond .eq 5, 3) := by decide +kernel
theorem d_M_document_24 : decode b_M_document 24 = .ok (.iconst 0, 1) := by decide +kernel
theorem d_M_document_25 : decode b_M_document 25 = .ok (.ireturn, 1) := by decide +kernel
theorem d_M_document_26 : decode b_M_document 26 = .ok (.iconst 0, 1) := by decide +kernel
theorem d_M_document_27 : decode b_M_document 27 = .ok (.istore_n 3, 1) := by decide +kernel
theorem d_M_document_28 : decode b_M_document 28 = .ok (.iload_n 3, 1) := by decide +kernel
theorem d_M_document_29 : decode b_M_document 29 = .ok (.aload_n 0, 1) := by decide +kernel
theorem d_M_document_30 : decode b_M_document 30 = .ok (.getfield 125, 3) := by decide +kernel
theorem d_M_document_33 : decode b_M_document 33 = .ok (.if_icmp .ge 108, 3) := by decide +kernel
theorem d_M_document_36 : decode b_M_document 36 = .ok (.aload_n 0, 1) := by decide +kernel
theorem d_M_document_37 : decode b_M_document 37 = .ok (.aload_n 0, 1) := by decide +kernel
theorem d_M_document_38 : decode b_M_document 38 = .ok (.getfield 29, 3) := by decide +kernel
theorem d_M_document_41 : decode b_M_document 41 = .ok (.iconst 3, 1) := by decide +kernel
theorem d_M_document_42 : decode b_M_document 42 = .ok (.iload_n 3, 1) := by decide +kernel
theorem d_M_document_43 : decode b_M_document 43 = .ok (.imul, 1) := by decide +kernel
theorem d_M_document_44 : decode b_M_document 44 = .ok (.iaload, 1) := by decide +kernel
theorem d_M_document_45 : decode b_M_document 45 = .ok (.invokevirtual 106, 3) := by decide +kernel
theorem d_M_document_48 : decode b_M_document 48 = .ok (.iload_n 1, 1) := by decide +kernel
theorem d_M_document_49 : decode b_M_document 49 = .ok (.if_icmp .eq 6, 3) := by decide +kernel
theorem d_M_document_52 : decode b_M_document 52 = .ok (.goto 83, 3) := by decide +kernel
theorem d_M_document_55 : decode b_M_document 55 = .ok (.iconst 0, 1) := by decide +kernel
theorem d_M_document_56 : decode b_M_document 56 = .ok (.istore 4, 2) := by decide +kernel
theorem d_M_document_58 : decode b_M_document 58 = .ok (.iconst 0, 1) := by decide +kernel
theorem d_M_document_59 : decode b_M_document 59 = .ok (.istore 5, 2) := by decide +kernel
theorem d_M_document_61 : decode b_M_document 61 = .ok (.iload 5, 2) := by decide +kernel
theorem d_M_document_63 : decode b_M_document 63 = .ok (.aload_n 0, 1) := by decide +kernel
theorem d_M_document_64 : decode b_M_document 64 = .ok (.getfield 125, 3) := by decide +kernel
theorem d_M_document_67 : decode b_M_document 67 = .ok (.if_icmp .ge 60, 3) := by decide +kernel
theorem d_M_document_70 : decode b_M_document 70 = .ok (.iload 4, 2) := by decide +kernel
theorem d_M_document_72 : decode b_M_document 72 = .ok (.aload_n 0, 1) := by decide +kernel
theorem d_M_document_73 : decode b_M_document 73 = .ok (.aload_n 0, 1) := by decide +kernel
theorem d_M_document_74 : decode b_M_document 74 = .ok (.getfield 29, 3) := by decide +kernel
theorem d_M_document_77 : decode b_M_document 77 = .ok (.iconst 3, 1) := by decide +kernel
theorem d_M_document_78 : decode b_M_document 78 = .ok (.iload 5, 2) := by decide +kernel
theorem d_M_document_80 : decode b_M_document 80 = .ok (.imul, 1) := by decide +kernel
theorem d_M_document_81 : decode b_M_document 81 = .ok (.iaload, 1) := by decide +kernel
theorem d_M_document_82 : decode b_M_document 82 = .ok (.invokevirtual 106, 3) := by decide +kernel
theorem d_M_document_85 : decode b_M_document 85 = .ok (.iload_n 1, 1) := by decide +kernel
theorem d_M_document_86 : decode b_M_document 86 = .ok (.if_icmp .ne 31, 3) := by decide +kernel
theorem d_M_document_89 : decode b_M_document 89 = .ok (.aload_n 0, 1) := by decide +kernel
theorem d_M_document_90 : decode b_M_document 90 = .ok (.aload_n 0, 1) := by decide +kernel
theorem d_M_document_91 : decode b_M_document 91 = .ok (.getfield 29, 3) := by decide +kernel
theorem d_M_document_94 : decode b_M_document 94 = .ok (.iconst 3, 1) := by decide +kernel
theorem d_M_document_95 : decode b_M_document 95 = .ok (.iload 5, 2) := by decide +kernel
theorem d_M_document_97 : decode b_M_document 97 = .ok (.imul, 1) := by decide +kernel
theorem d_M_document_98 : decode b_M_document 98 = .ok (.iaload, 1) := by decide +kernel
theorem d_M_document_99 : decode b_M_document 99 = .ok (.aload_n 0, 1) := by decide +kernel
theorem d_M_document_100 : decode b_M_document 100 = .ok (.getfield 29, 3) := by decide +kernel
theorem d_M_document_103 : decode b_M_document 103 = .ok (.iconst 3, 1) := by decide +kernel
theorem d_M_document_104 : decode b_M_document 104 = .ok (.iload_n 3, 1) := by decide +kernel
theorem d_M_document_105 : decode b_M_document 105 = .ok (.imul, 1) := by decide +kernel
theorem d_M_document_106 : decode b_M_document 106 = .ok (.iaload, 1) := by decide +kernel
theorem d_M_document_107 : decode b_M_document 107 = .ok (.invokevirtual 110, 3) := by decide +kernel
theorem d_M_document_110 : decode b_M_document 110 = .ok (.ifCond .eq 7, 3) := by decide +kernel
theorem d_M_document_113 : decode b_M_document 113 = .ok (.iconst 1, 1) := by decide +kernel
theorem d_M_document_114 : decode b_M_document 114 = .ok (.goto 4, 3) := by decide +kernel
theorem d_M_document_117 : decode b_M_document 117 = .ok (.iconst 0, 1) := by decide +kernel
theorem d_M_document_118 : decode b_M_document 118 = .ok (.iadd, 1) := by decide +kernel
theorem d_M_document_119 : decode b_M_document 119 = .ok (.istore 4, 2) := by decide +kernel
theorem d_M_document_121 : decode b_M_document 121 = .ok (.iinc 5 1, 3) := by decide +kernel
theorem d_M_document_124 : decode b_M_document 124 = .ok (.goto (-63), 3) := by decide +kernel
theorem d_M_document_127 : decode b_M_document 127 = .ok (.iload 4, 2) := by decide +kernel
theorem d_M_document_129 : decode b_M_document 129 = .ok (.iload_n 2, 1) := by decide +kernel
theorem d_M_document_130 : decode b_M_document 130 = .ok (.if_icmp .ne 5, 3) := by decide +kernel
theorem d_M_document_133 : decode b_M_document 133 = .ok (.iload_n 3, 1) := by decide +kernel
theorem d_M_document_134 : decode b_M_document 134 = .ok (.ireturn, 1) := by decide +kernel
theorem d_M_document_135 : decode b_M_document 135 = .ok (.iinc 3 1, 3) := by decide +kernel
theorem d_M_document_138 : decode b_M_document 138 = .ok (.goto (-110), 3) := by decide +kernel
theorem d_M_document_141 : decode b_M_document 141 = .ok (.iconst (-1), 1) := by decide +kernel
theorem d_M_document_142 : decode b_M_document 142 = .ok (.ireturn, 1) := by decide +kernel
theorem d_M_use_0 : decode b_M_use 0 = .ok (.aload_n 0, 1) := by decide +kernel
theorem d_M_use_1 : decode b_M_use 1 = .ok (.aload_n 0, 1) := by decide +kernel
theorem d_M_use_2 : decode b_M_use 2 = .ok (.iload_n 1, 1) := by decide +kernel
theorem d_M_use_3 : decode b_M_use 3 = .ok (.invokevirtual 89, 3) := by decide +kernel
theorem d_M_use_6 : decode b_M_use 6 = .ok (.ifCond .eq 7, 3) := by decide +kernel
theorem d_M_use_9 : decode b_M_use 9 = .ok (.iconst 1, 1) := by decide +kernel
theorem d_M_use_10 : decode b_M_use 10 = .ok (.goto 4, 3) := by decide +kernel
theorem d_M_use_13 : decode b_M_use 13 = .ok (.iconst 0, 1) := by decide +kernel
theorem d_M_use_14 : decode b_M_use 14 = .ok (.invokevirtual 57, 3) := by decide +kernel
theorem d_M_use_17 : decode b_M_use 17 = .ok (.ifCond .eq 7, 3) := by decide +kernel
theorem d_M_use_20 : decode b_M_use 20 = .ok (.iconst 0, 1) := by decide +kernel
theorem d_M_use_21 : decode b_M_use 21 = .ok (.goto 14, 3) := by decide +kernel
theorem d_M_use_24 : decode b_M_use 24 = .ok (.aload_n 0, 1) := by decide +kernel
theorem d_M_use_25 : decode b_M_use 25 = .ok (.getfield 23, 3) := by decide +kernel
theorem d_M_use_28 : decode b_M_use 28 = .ok (.iload_n 1, 1) := by decide +kernel
theorem d_M_use_29 : decode b_M_use 29 = .ok (.dup2, 1) := by decide +kernel
theorem d_M_use_30 : decode b_M_use 30 = .ok (.iaload, 1) := by decide +kernel
theorem d_M_use_31 : decode b_M_use 31 = .ok (.iconst 1, 1) := by decide +kernel
theorem d_M_use_32 : decode b_M_use 32 = .ok (.iadd, 1) := by decide +kernel
theorem d_M_use_33 : decode b_M_use 33 = .ok (.dup_x2, 1) := by decide +kernel
theorem d_M_use_34 : decode b_M_use 34 = .ok (.iastore, 1) := by decide +kernel
theorem d_M_use_35 : decode b_M_use 35 = .ok (.ireturn, 1) := by decide +kernel
theorem d_M_used_0 : decode b_M_used 0 = .ok (.aload_n 0, 1) := by decide +kernel
theorem d_M_used_1 : decode b_M_used 1 = .ok (.aload_n 0, 1) := by decide +kernel
theorem d_M_used_2 : decode b_M_used 2 = .ok (.iload_n 1, 1) := by decide +kernel
theorem d_M_used_3 : decode b_M_used 3 = .ok (.invokevirtual 89, 3) := by decide +kernel
theorem d_M_used_6 : decode b_M_used 6 = .ok (.ifCond .eq 7, 3) := by decide +kernel
theorem d_M_used_9 : decode b_M_used 9 = .ok (.iconst 1, 1) := by decide +kernel
theorem d_M_used_10 : decode b_M_used 10 = .ok (.goto 4, 3) := by decide +kernel
theorem d_M_used_13 : decode b_M_used 13 = .ok (.iconst 0, 1) := by decide +kernel
theorem d_M_used_14 : decode b_M_used 14 = .ok (.invokevirtual 57, 3) := by decide +kernel
theorem d_M_used_17 : decode b_M_used 17 = .ok (.ifCond .eq 7, 3) := by decide +kernel
theorem d_M_used_20 : decode b_M_used 20 = .ok (.iconst 0, 1) := by decide +kernel
theorem d_M_used_21 : decode b_M_used 21 = .ok (.goto 9, 3) := by decide +kernel
theorem d_M_used_24 : decode b_M_used 24 = .ok (.aload_n 0, 1) := by decide +kernel
theorem d_M_used_25 : decode b_M_used 25 = .ok (.getfield 23, 3) := by decide +kernel
theorem d_M_used_28 : decode b_M_used 28 = .ok (.iload_n 1, 1) := by decide +kernel
theorem d_M_used_29 : decode b_M_used 29 = .ok (.iaload, 1) := by decide +kernel
theorem d_M_used_30 : decode b_M_used 30 = .ok (.ireturn, 1) := by decide +kernel
theorem d_M_isUnknown_0 : decode b_M_isUnknown 0 = .ok (.aload_n 0, 1) := by decide +kernel
theorem d_M_isUnknown_1 : decode b_M_isUnknown 1 = .ok (.getfield 23, 3) := by decide +kernel
theorem d_M_isUnknown_4 : decode b_M_isUnknown 4 = .ok (.iload_n 1, 1) := by decide +kernel
theorem d_M_isUnknown_5 : decode b_M_isUnknown 5 = .ok (.iaload, 1) := by decide +kernel
theorem d_M_isUnknown_6 : decode b_M_isUnknown 6 = .ok (.ifCond .ne 7, 3) := by decide +kernel
theorem d_M_isUnknown_9 : decode b_M_isUnknown 9 = .ok (.iconst (-1), 1) := by decide +kernel
theorem d_M_isUnknown_10 : decode b_M_isUnknown 10 = .ok (.goto 8, 3) := by decide +kernel
theorem d_M_isUnknown_13 : decode b_M_isUnknown 13 = .ok (.aload_n 0, 1) := by decide +kernel
theorem d_M_isUnknown_14 : decode b_M_isUnknown 14 = .ok (.iload_n 1, 1) := by decide +kernel
theorem d_M_isUnknown_15 : decode b_M_isUnknown 15 = .ok (.invokevirtual 106, 3) := by decide +kernel
theorem d_M_isUnknown_18 : decode b_M_isUnknown 18 = .ok (.istore_n 2, 1) := by decide +kernel
theorem d_M_isUnknown_19 : decode b_M_isUnknown 19 = .ok (.iconst 0, 1) := by decide +kernel
theorem d_M_isUnknown_20 : decode b_M_isUnknown 20 = .ok (.istore_n 3, 1) := by decide +kernel
theorem d_M_isUnknown_21 : decode b_M_isUnknown 21 = .ok (.iconst 0, 1) := by decide +kernel
theorem d_M_isUnknown_22 : decode b_M_isUnknown 22 = .ok (.istore 4, 2) := by decide +kernel
theorem d_M_isUnknown_24 : decode b_M_isUnknown 24 = .ok (.iload 4, 2) := by decide +kernel
theorem d_M_isUnknown_26 : decode b_M_isUnknown 26 = .ok (.aload_n 0, 1) := by decide +kernel
theorem d_M_isUnknown_27 : decode b_M_isUnknown 27 = .ok (.getfield 125, 3) := by decide +kernel
theorem d_M_isUnknown_30 : decode b_M_isUnknown 30 = .ok (.if_icmp .ge 53, 3) := by decide +kernel
theorem d_M_isUnknown_33 : decode b_M_isUnknown 33 = .ok (.iload_n 2, 1) := by decide +kernel
theorem d_M_isUnknown_34 : decode b_M_isUnknown 34 = .ok (.ifCond .lt 49, 3) := by decide +kernel
theorem d_M_isUnknown_37 : decode b_M_isUnknown 37 = .ok (.aload_n 0, 1) := by decide +kernel
theorem d_M_isUnknown_38 : decode b_M_isUnknown 38 = .ok (.getfield 29, 3) := by decide +kernel
theorem d_M_isUnknown_41 : decode b_M_isUnknown 41 = .ok (.iconst 3, 1) := by decide +kernel
theorem d_M_isUnknown_42 : decode b_M_isUnknown 42 = .ok (.iload 4, 2) := by decide +kernel
theorem d_M_isUnknown_44 : decode b_M_isUnknown 44 = .ok (.imul, 1) := by decide +kernel
theorem d_M_isUnknown_45 : decode b_M_isUnknown 45 = .ok (.iaload, 1) := by decide +kernel
theorem d_M_isUnknown_46 : decode b_M_isUnknown 46 = .ok (.iload_n 1, 1) := by decide +kernel
theorem d_M_isUnknown_47 : decode b_M_isUnknown 47 = .ok (.if_icmp .ne 5, 3) := by decide +kernel
theorem d_M_isUnknown_50 : decode b_M_isUnknown 50 = .ok (.iconst 0, 1) := by decide +kernel
theorem d_M_isUnknown_51 : decode b_M_isUnknown 51 = .ok (.ireturn, 1) := by decide +kernel
theorem d_M_isUnknown_52 : decode b_M_isUnknown 52 = .ok (.iload_n 3, 1) := by decide +kernel
theorem d_M_isUnknown_53 : decode b_M_isUnknown 53 = .ok (.aload_n 0, 1) := by decide +kernel
theorem d_M_isUnknown_54 : decode b_M_isUnknown 54 = .ok (.aload_n 0, 1) := by decide +kernel
theorem d_M_isUnknown_55 : decode b_M_isUnknown 55 = .ok (.getfield 29, 3) := by decide +kernel
theorem d_M_isUnknown_58 : decode b_M_isUnknown 58 = .ok (.iconst 3, 1) := by decide +kernel
theorem d_M_isUnknown_59 : decode b_M_isUnknown 59 = .ok (.iload 4, 2) := by decide +kernel
theorem d_M_isUnknown_61 : decode b_M_isUnknown 61 = .ok (.imul, 1) := by decide +kernel
theorem d_M_isUnknown_62 : decode b_M_isUnknown 62 = .ok (.iaload, 1) := by decide +kernel
theorem d_M_isUnknown_63 : decode b_M_isUnknown 63 = .ok (.invokevirtual 106, 3) := by decide +kernel
theorem d_M_isUnknown_66 : decode b_M_isUnknown 66 = .ok (.iload_n 2, 1) := by decide +kernel
theorem d_M_isUnknown_67 : decode b_M_isUnknown 67 = .ok (.if_icmp .ne 7, 3) := by decide +kernel
theorem d_M_isUnknown_70 : decode b_M_isUnknown 70 = .ok (.iconst 1, 1) := by decide +kernel
theorem d_M_isUnknown_71 : decode b_M_isUnknown 71 = .ok (.goto 4, 3) := by decide +kernel
theorem d_M_isUnknown_74 : decode b_M_isUnknown 74 = .ok (.iconst 0, 1) := by decide +kernel
theorem d_M_isUnknown_75 : decode b_M_isUnknown 75 = .ok (.ior, 1) := by decide +kernel
theorem d_M_isUnknown_76 : decode b_M_isUnknown 76 = .ok (.istore_n 3, 1) := by decide +kernel
theorem d_M_isUnknown_77 : decode b_M_isUnknown 77 = .ok (.iinc 4 1, 3) := by decide +kernel
theorem d_M_isUnknown_80 : decode b_M_isUnknown 80 = .ok (.goto (-56), 3) := by decide +kernel
theorem d_M_isUnknown_83 : decode b_M_isUnknown 83 = .ok (.iload_n 3, 1) := by decide +kernel
theorem d_M_isUnknown_84 : decode b_M_isUnknown 84 = .ok (.ireturn, 1) := by decide +kernel
theorem d_M_unknown_0 : decode b_M_unknown 0 = .ok (.aload_n 0, 1) := by decide +kernel
theorem d_M_unknown_1 : decode b_M_unknown 1 = .ok (.iload_n 1, 1) := by decide +kernel
theorem d_M_unknown_2 : decode b_M_unknown 2 = .ok (.ifCond .ge 7, 3) := by decide +kernel
theorem d_M_unknown_5 : decode b_M_unknown 5 = .ok (.iconst 1, 1) := by decide +kernel
theorem d_M_unknown_6 : decode b_M_unknown 6 = .ok (.goto 4, 3) := by decide +kernel
theorem d_M_unknown_9 : decode b_M_unknown 9 = .ok (.iconst 0, 1) := by decide +kernel
theorem d_M_unknown_10 : decode b_M_unknown 10 = .ok (.invokevirtual 57, 3) := by decide +kernel
theorem d_M_unknown_13 : decode b_M_unknown 13 = .ok (.ifCond .eq 5, 3) := by decide +kernel
theorem d_M_unknown_16 : decode b_M_unknown 16 = .ok (.iconst 0, 1) := by decide +kernel
theorem d_M_unknown_17 : decode b_M_unknown 17 = .ok (.ireturn, 1) := by decide +kernel
theorem d_M_unknown_18 : decode b_M_unknown 18 = .ok (.iload_n 1, 1) := by decide +kernel
theorem d_M_unknown_19 : decode b_M_unknown 19 = .ok (.istore_n 2, 1) := by decide +kernel
theorem d_M_unknown_20 : decode b_M_unknown 20 = .ok (.iconst 0, 1) := by decide +kernel
theorem d_M_unknown_21 : decode b_M_unknown 21 = .ok (.istore_n 3, 1) := by decide +kernel
theorem d_M_unknown_22 : decode b_M_unknown 22 = .ok (.iload_n 3, 1) := by decide +kernel
theorem d_M_unknown_23 : decode b_M_unknown 23 = .ok (.aload_n 0, 1) := by decide +kernel
theorem d_M_unknown_24 : decode b_M_unknown 24 = .ok (.getfield 51, 3) := by decide +kernel
theorem d_M_unknown_27 : decode b_M_unknown 27 = .ok (.if_icmp .ge 26, 3) := by decide +kernel
theorem d_M_unknown_30 : decode b_M_unknown 30 = .ok (.aload_n 0, 1) := by decide +kernel
theorem d_M_unknown_31 : decode b_M_unknown 31 = .ok (.iload_n 3, 1) := by decide +kernel
theorem d_M_unknown_32 : decode b_M_unknown 32 = .ok (.invokevirtual 131, 3) := by decide +kernel
theorem d_M_unknown_35 : decode b_M_unknown 35 = .ok (.ifCond .eq 12, 3) := by decide +kernel
theorem d_M_unknown_38 : decode b_M_unknown 38 = .ok (.iload_n 2, 1) := by decide +kernel
theorem d_M_unknown_39 : decode b_M_unknown 39 = .ok (.iinc 2 (-1), 3) := by decide +kernel
theorem d_M_unknown_42 : decode b_M_unknown 42 = .ok (.ifCond .ne 5, 3) := by decide +kernel
theorem d_M_unknown_45 : decode b_M_unknown 45 = .ok (.iload_n 3, 1) := by decide +kernel
theorem d_M_unknown_46 : decode b_M_unknown 46 = .ok (.ireturn, 1) := by decide +kernel
theorem d_M_unknown_47 : decode b_M_unknown 47 = .ok (.iinc 3 1, 3) := by decide +kernel
theorem d_M_unknown_50 : decode b_M_unknown 50 = .ok (.goto (-28), 3) := by decide +kernel
theorem d_M_unknown_53 : decode b_M_unknown 53 = .ok (.iconst (-1), 1) := by decide +kernel
theorem d_M_unknown_54 : decode b_M_unknown 54 = .ok (.ireturn, 1) := by decide +kernel
theorem d_M_distance_0 : decode b_M_distance 0 = .ok (.iconst 0, 1) := by decide +kernel
theorem d_M_distance_1 : decode b_M_distance 1 = .ok (.istore_n 3, 1) := by decide +kernel
theorem d_M_distance_2 : decode b_M_distance 2 = .ok (.iload_n 3, 1) := by decide +kernel
theorem d_M_distance_3 : decode b_M_distance 3 = .ok (.aload_n 0, 1) := by decide +kernel
theorem d_M_distance_4 : decode b_M_distance 4 = .ok (.getfield 16, 3) := by decide +kernel
theorem d_M_distance_7 : decode b_M_distance 7 = .ok (.iload_n 2, 1) := by decide +kernel
theorem d_M_distance_8 : decode b_M_distance 8 = .ok (.iaload, 1) := by decide +kernel
theorem d_M_distance_9 : decode b_M_distance 9 = .ok (.if_icmp .gt 16, 3) := by decide +kernel
theorem d_M_distance_12 : decode b_M_distance 12 = .ok (.aload_n 0, 1) := by decide +kernel
theorem d_M_distance_13 : decode b_M_distance 13 = .ok (.getfield 44, 3) := by decide +kernel
theorem d_M_distance_16 : decode b_M_distance 16 = .ok (.iload_n 3, 1) := by decide +kernel
theorem d_M_distance_17 : decode b_M_distance 17 = .ok (.iload_n 3, 1) := by decide +kernel
theorem d_M_distance_18 : decode b_M_distance 18 = .ok (.iastore, 1) := by decide +kernel
theorem d_M_distance_19 : decode b_M_distance 19 = .ok (.iinc 3 1, 3) := by decide +kernel
theorem d_M_distance_22 : decode b_M_distance 22 = .ok (.goto (-20), 3) := by decide +kernel
theorem d_M_distance_25 : decode b_M_distance 25 = .ok (.iconst 1, 1) := by decide +kernel
theorem d_M_distance_26 : decode b_M_distance 26 = .ok (.istore_n 3, 1) := by decide +kernel
theorem d_M_distance_27 : decode b_M_distance 27 = .ok (.iload_n 3, 1) := by decide +kernel
theorem d_M_distance_28 : decode b_M_distance 28 = .ok (.aload_n 0, 1) := by decide +kernel
theorem d_M_distance_29 : decode b_M_distance 29 = .ok (.getfield 16, 3) := by decide +kernel
theorem d_M_distance_32 : decode b_M_distance 32 = .ok (.iload_n 1, 1) := by decide +kernel
theorem d_M_distance_33 : decode b_M_distance 33 = .ok (.iaload, 1) := by decide +kernel
theorem d_M_distance_34 : decode b_M_distance 34 = .ok (.if_icmp .gt 146, 3) := by decide +kernel
theorem d_M_distance_37 : decode b_M_distance 37 = .ok (.aload_n 0, 1) := by decide +kernel
theorem d_M_distance_38 : decode b_M_distance 38 = .ok (.getfield 44, 3) := by decide +kernel
theorem d_M_distance_41 : decode b_M_distance 41 = .ok (.iconst 0, 1) := by decide +kernel
theorem d_M_distance_42 : decode b_M_distance 42 = .ok (.iaload, 1) := by decide +kernel
theorem d_M_distance_43 : decode b_M_distance 43 = .ok (.istore 4, 2) := by decide +kernel
theorem d_M_distance_45 : decode b_M_distance 45 = .ok (.aload_n 0, 1) := by decide +kernel
theorem d_M_distance_46 : decode b_M_distance 46 = .ok (.getfield 44, 3) := by decide +kernel
theorem d_M_distance_49 : decode b_M_distance 49 = .ok (.iconst 0, 1) := by decide +kernel
theorem d_M_distance_50 : decode b_M_distance 50 = .ok (.iload_n 3, 1) := by decide +kernel
theorem d_M_distance_51 : decode b_M_distance 51 = .ok (.iastore, 1) := by decide +kernel
theorem d_M_distance_52 : decode b_M_distance 52 = .ok (.iconst 1, 1) := by decide +kernel
theorem d_M_distance_53 : decode b_M_distance 53 = .ok (.istore 5, 2) := by decide +kernel
theorem d_M_distance_55 : decode b_M_distance 55 = .ok (.iload 5, 2) := by decide +kernel
theorem d_M_distance_57 : decode b_M_distance 57 = .ok (.aload_n 0, 1) := by decide +kernel
theorem d_M_distance_58 : decode b_M_distance 58 = .ok (.getfield 16, 3) := by decide +kernel
theorem d_M_distance_61 : decode b_M_distance 61 = .ok (.iload_n 2, 1) := by decide +kernel
theorem d_M_distance_62 : decode b_M_distance 62 = .ok (.iaload, 1) := by decide +kernel
theorem d_M_distance_63 : decode b_M_distance 63 = .ok (.if_icmp .gt 111, 3) := by decide +kernel
theorem d_M_distance_66 : decode b_M_distance 66 = .ok (.aload_n 0, 1) := by decide +kernel
theorem d_M_distance_67 : decode b_M_distance 67 = .ok (.getfield 44, 3) := by decide +kernel
theorem d_M_distance_70 : decode b_M_distance 70 = .ok (.iload 5, 2) := by decide +kernel
theorem d_M_distance_72 : decode b_M_distance 72 = .ok (.iaload, 1) := by decide +kernel
theorem d_M_distance_73 : decode b_M_distance 73 = .ok (.aload_n 0, 1) := by decide +kernel
theorem d_M_distance_74 : decode b_M_distance 74 = .ok (.getfield 44, 3) := by decide +kernel
theorem d_M_distance_77 : decode b_M_distance 77 = .ok (.iload 5, 2) := by decide +kernel
theorem d_M_distance_79 : decode b_M_distance 79 = .ok (.iconst 1, 1) := by decide +kernel
theorem d_M_distance_80 : decode b_M_distance 80 = .ok (.isub, 1) := by decide +kernel
theorem d_M_distance_81 : decode b_M_distance 81 = .ok (.iaload, 1) := by decide +kernel
theorem d_M_distance_82 : decode b_M_distance 82 = .ok (.if_icmp .ge 13, 3) := by decide +kernel
theorem d_M_distance_85 : decode b_M_distance 85 = .ok (.aload_n 0, 1) := by decide +kernel
theorem d_M_distance_86 : decode b_M_distance 86 = .ok (.getfield 44, 3) := by decide +kernel
theorem d_M_distance_89 : decode b_M_distance 89 = .ok (.iload 5, 2) := by decide +kernel
theorem d_M_distance_91 : decode b_M_distance 91 = .ok (.iaload, 1) := by decide +kernel
theorem d_M_distance_92 : decode b_M_distance 92 = .ok (.goto 12, 3) := by decide +kernel
theorem d_M_distance_95 : decode b_M_distance 95 = .ok (.aload_n 0, 1) := by decide +kernel
theorem d_M_distance_96 : decode b_M_distance 96 = .ok (.getfield 44, 3) := by decide +kernel
theorem d_M_distance_99 : decode b_M_distance 99 = .ok (.iload 5, 2) := by decide +kernel
theorem d_M_distance_101 : decode b_M_distance 101 = .ok (.iconst 1, 1) := by decide +kernel
theorem d_M_distance_102 : decode b_M_distance 102 = .ok (.isub, 1) := by decide +kernel
theorem d_M_distance_103 : decode b_M_distance 103 = .ok (.iaload, 1) := by decide +kernel
theorem d_M_distance_104 : decode b_M_distance 104 = .ok (.iconst 1, 1) := by decide +kernel
theorem d_M_distance_105 : decode b_M_distance 105 = .ok (.iadd, 1) := by decide +kernel
theorem d_M_distance_106 : decode b_M_distance 106 = .ok (.istore 6, 2) := by decide +kernel
theorem d_M_distance_108 : decode b_M_distance 108 = .ok (.iload 4, 2) := by decide +kernel
theorem d_M_distance_110 : decode b_M_distance 110 = .ok (.aload_n 0, 1) := by decide +kernel
theorem d_M_distance_111 : decode b_M_distance 111 = .ok (.iload_n 1, 1) := by decide +kernel
theorem d_M_distance_112 : decode b_M_distance 112 = .ok (.iload_n 3, 1) := by decide +kernel
theorem d_M_distance_113 : decode b_M_distance 113 = .ok (.iconst 1, 1) := by decide +kernel
theorem d_M_distance_114 : decode b_M_distance 114 = .ok (.isub, 1) := by decide +kernel
theorem d_M_distance_115 : decode b_M_distance 115 = .ok (.invokevirtual 64, 3) := by decide +kernel
theorem d_M_distance_118 : decode b_M_distance 118 = .ok (.aload_n 0, 1) := by decide +kernel
theorem d_M_distance_119 : decode b_M_distance 119 = .ok (.iload_n 2, 1) := by decide +kernel
theorem d_M_distance_120 : decode b_M_distance 120 = .ok (.iload 5, 2) := by decide +kernel
theorem d_M_distance_122 : decode b_M_distance 122 = .ok (.iconst 1, 1) := by decide +kernel
theorem d_M_distance_123 : decode b_M_distance 123 = .ok (.isub, 1) := by decide +kernel
theorem d_M_distance_124 : decode b_M_distance 124 = .ok (.invokevirtual 64, 3) := by decide +kernel
theorem d_M_distance_127 : decode b_M_distance 127 = .ok (.if_icmp .ne 7, 3) := by decide +kernel
theorem d_M_distance_130 : decode b_M_distance 130 = .ok (.iconst 0, 1) := by decide +kernel
theorem d_M_distance_131 : decode b_M_distance 131 = .ok (.goto 4, 3) := by decide +kernel
theorem d_M_distance_134 : decode b_M_distance 134 = .ok (.iconst 1, 1) := by decide +kernel
theorem d_M_distance_135 : decode b_M_distance 135 = .ok (.iadd, 1) := by decide +kernel
theorem d_M_distance_136 : decode b_M_distance 136 = .ok (.istore 7, 2) := by decide +kernel
theorem d_M_distance_138 : decode b_M_distance 138 = .ok (.aload_n 0, 1) := by decide +kernel
theorem d_M_distance_139 : decode b_M_distance 139 = .ok (.getfield 44, 3) := by decide +kernel
theorem d_M_distance_142 : decode b_M_distance 142 = .ok (.iload 5, 2) := by decide +kernel
theorem d_M_distance_144 : decode b_M_distance 144 = .ok (.iaload, 1) := by decide +kernel
theorem d_M_distance_145 : decode b_M_distance 145 = .ok (.istore 4, 2) := by decide +kernel
theorem d_M_distance_147 : decode b_M_distance 147 = .ok (.aload_n 0, 1) := by decide +kernel
theorem d_M_distance_148 : decode b_M_distance 148 = .ok (.getfield 44, 3) := by decide +kernel
theorem d_M_distance_151 : decode b_M_distance 151 = .ok (.iload 5, 2) := by decide +kernel
theorem d_M_distance_153 : decode b_M_distance 153 = .ok (.iload 6, 2) := by decide +kernel
theorem d_M_distance_155 : decode b_M_distance 155 = .ok (.iload 7, 2) := by decide +kernel
theorem d_M_distance_157 : decode b_M_distance 157 = .ok (.if_icmp .ge 8, 3) := by decide +kernel
theorem d_M_distance_160 : decode b_M_distance 160 = .ok (.iload 6, 2) := by decide +kernel
theorem d_M_distance_162 : decode b_M_distance 162 = .ok (.goto 5, 3) := by decide +kernel
theorem d_M_distance_165 : decode b_M_distance 165 = .ok (.iload 7, 2) := by decide +kernel
theorem d_M_distance_167 : decode b_M_distance 167 = .ok (.iastore, 1) := by decide +kernel
theorem d_M_distance_168 : decode b_M_distance 168 = .ok (.iinc 5 1, 3) := by decide +kernel
theorem d_M_distance_171 : decode b_M_distance 171 = .ok (.goto (-116), 3) := by decide +kernel
theorem d_M_distance_174 : decode b_M_distance 174 = .ok (.iinc 3 1, 3) := by decide +kernel
theorem d_M_distance_177 : decode b_M_distance 177 = .ok (.goto (-150), 3) := by decide +kernel
theorem d_M_distance_180 : decode b_M_distance 180 = .ok (.aload_n 0, 1) := by decide +kernel
theorem d_M_distance_181 : decode b_M_distance 181 = .ok (.getfield 44, 3) := by decide +kernel
theorem d_M_distance_184 : decode b_M_distance 184 = .ok (.aload_n 0, 1) := by decide +kernel
theorem d_M_distance_185 : decode b_M_distance 185 = .ok (.getfield 16, 3) := by decide +kernel
theorem d_M_distance_188 : decode b_M_distance 188 = .ok (.iload_n 2, 1) := by decide +kernel
theorem d_M_distance_189 : decode b_M_distance 189 = .ok (.iaload, 1) := by decide +kernel
theorem d_M_distance_190 : decode b_M_distance 190 = .ok (.iaload, 1) := by decide +kernel
theorem d_M_distance_191 : decode b_M_distance 191 = .ok (.ireturn, 1) := by decide +kernel
theorem d_M_apart_0 : decode b_M_apart 0 = .ok (.aload_n 0, 1) := by decide +kernel
theorem d_M_apart_1 : decode b_M_apart 1 = .ok (.aload_n 0, 1) := by decide +kernel
theorem d_M_apart_2 : decode b_M_apart 2 = .ok (.iload_n 1, 1) := by decide +kernel
theorem d_M_apart_3 : decode b_M_apart 3 = .ok (.invokevirtual 89, 3) := by decide +kernel
theorem d_M_apart_6 : decode b_M_apart 6 = .ok (.ifCond .ne 11, 3) := by decide +kernel
theorem d_M_apart_9 : decode b_M_apart 9 = .ok (.aload_n 0, 1) := by decide +kernel
theorem d_M_apart_10 : decode b_M_apart 10 = .ok (.iload_n 2, 1) := by decide +kernel
theorem d_M_apart_11 : decode b_M_apart 11 = .ok (.invokevirtual 89, 3) := by decide +kernel
theorem d_M_apart_14 : decode b_M_apart 14 = .ok (.ifCond .eq 7, 3) := by decide +kernel
theorem d_M_apart_17 : decode b_M_apart 17 = .ok (.iconst 1, 1) := by decide +kernel
theorem d_M_apart_18 : decode b_M_apart 18 = .ok (.goto 4, 3) := by decide +kernel
theorem d_M_apart_21 : decode b_M_apart 21 = .ok (.iconst 0, 1) := by decide +kernel
theorem d_M_apart_22 : decode b_M_apart 22 = .ok (.invokevirtual 57, 3) := by decide +kernel
theorem d_M_apart_25 : decode b_M_apart 25 = .ok (.ifCond .eq 7, 3) := by decide +kernel
theorem d_M_apart_28 : decode b_M_apart 28 = .ok (.iconst 0, 1) := by decide +kernel
theorem d_M_apart_29 : decode b_M_apart 29 = .ok (.goto 9, 3) := by decide +kernel
theorem d_M_apart_32 : decode b_M_apart 32 = .ok (.aload_n 0, 1) := by decide +kernel
theorem d_M_apart_33 : decode b_M_apart 33 = .ok (.iload_n 1, 1) := by decide +kernel
theorem d_M_apart_34 : decode b_M_apart 34 = .ok (.iload_n 2, 1) := by decide +kernel
theorem d_M_apart_35 : decode b_M_apart 35 = .ok (.invokevirtual 134, 3) := by decide +kernel
theorem d_M_apart_38 : decode b_M_apart 38 = .ok (.ireturn, 1) := by decide +kernel
theorem d_M_near_0 : decode b_M_near 0 = .ok (.aload_n 0, 1) := by decide +kernel
theorem d_M_near_1 : decode b_M_near 1 = .ok (.aload_n 0, 1) := by decide +kernel
theorem d_M_near_2 : decode b_M_near 2 = .ok (.iload_n 1, 1) := by decide +kernel
theorem d_M_near_3 : decode b_M_near 3 = .ok (.invokevirtual 89, 3) := by decide +kernel
theorem d_M_near_6 : decode b_M_near 6 = .ok (.ifCond .ne 7, 3) := by decide +kernel
theorem d_M_near_9 : decode b_M_near 9 = .ok (.iload_n 2, 1) := by decide +kernel
theorem d_M_near_10 : decode b_M_near 10 = .ok (.ifCond .ge 7, 3) := by decide +kernel
theorem d_M_near_13 : decode b_M_near 13 = .ok (.iconst 1, 1) := by decide +kernel
theorem d_M_near_14 : decode b_M_near 14 = .ok (.goto 4, 3) := by decide +kernel
theorem d_M_near_17 : decode b_M_near 17 = .ok (.iconst 0, 1) := by decide +kernel
theorem d_M_near_18 : decode b_M_near 18 = .ok (.invokevirtual 57, 3) := by decide +kernel
theorem d_M_near_21 : decode b_M_near 21 = .ok (.ifCond .eq 5, 3) := by decide +kernel
theorem d_M_near_24 : decode b_M_near 24 = .ok (.iconst 0, 1) := by decide +kernel
theorem d_M_near_25 : decode b_M_near 25 = .ok (.ireturn, 1) := by decide +kernel
theorem d_M_near_26 : decode b_M_near 26 = .ok (.iload_n 2, 1) := by decide +kernel
theorem d_M_near_27 : decode b_M_near 27 = .ok (.istore_n 3, 1) := by decide +kernel
theorem d_M_near_28 : decode b_M_near 28 = .ok (.iconst 0, 1) := by decide +kernel
theorem d_M_near_29 : decode b_M_near 29 = .ok (.istore 4, 2) := by decide +kernel
theorem d_M_near_31 : decode b_M_near 31 = .ok (.iload 4, 2) := by decide +kernel
theorem d_M_near_33 : decode b_M_near 33 = .ok (.bipush 24, 2) := by decide +kernel
theorem d_M_near_35 : decode b_M_near 35 = .ok (.if_icmp .gt 56, 3) := by decide +kernel
theorem d_M_near_38 : decode b_M_near 38 = .ok (.iconst 0, 1) := by decide +kernel
theorem d_M_near_39 : decode b_M_near 39 = .ok (.istore 5, 2) := by decide +kernel
theorem d_M_near_41 : decode b_M_near 41 = .ok (.iload 5, 2) := by decide +kernel
theorem d_M_near_43 : decode b_M_near 43 = .ok (.aload_n 0, 1) := by decide +kernel
theorem d_M_near_44 : decode b_M_near 44 = .ok (.getfield 125, 3) := by decide +kernel
theorem d_M_near_47 : decode b_M_near 47 = .ok (.if_icmp .ge 38, 3) := by decide +kernel
theorem d_M_near_50 : decode b_M_near 50 = .ok (.aload_n 0, 1) := by decide +kernel
theorem d_M_near_51 : decode b_M_near 51 = .ok (.iload_n 1, 1) := by decide +kernel
theorem d_M_near_52 : decode b_M_near 52 = .ok (.aload_n 0, 1) := by decide +kernel
theorem d_M_near_53 : decode b_M_near 53 = .ok (.getfield 29, 3) := by decide +kernel
theorem d_M_near_56 : decode b_M_near 56 = .ok (.iconst 3, 1) := by decide +kernel
theorem d_M_near_57 : decode b_M_near 57 = .ok (.iload 5, 2) := by decide +kernel
theorem d_M_near_59 : decode b_M_near 59 = .ok (.imul, 1) := by decide +kernel
theorem d_M_near_60 : decode b_M_near 60 = .ok (.iaload, 1) := by decide +kernel
theorem d_M_near_61 : decode b_M_near 61 = .ok (.invokevirtual 134, 3) := by decide +kernel
theorem d_M_near_64 : decode b_M_near 64 = .ok (.iload 4, 2) := by decide +kernel
theorem d_M_near_66 : decode b_M_near 66 = .ok (.if_icmp .ne 13, 3) := by decide +kernel
theorem d_M_near_69 : decode b_M_near 69 = .ok (.iload_n 3, 1) := by decide +kernel
theorem d_M_near_70 : decode b_M_near 70 = .ok (.iinc 3 (-1), 3) := by decide +kernel
theorem d_M_near_73 : decode b_M_near 73 = .ok (.ifCond .ne 6, 3) := by decide +kernel
theorem d_M_near_76 : decode b_M_near 76 = .ok (.iload 5, 2) := by decide +kernel
theorem d_M_near_78 : decode b_M_near 78 = .ok (.ireturn, 1) := by decide +kernel
theorem d_M_near_79 : decode b_M_near 79 = .ok (.iinc 5 1, 3) := by decide +kernel
theorem d_M_near_82 : decode b_M_near 82 = .ok (.goto (-41), 3) := by decide +kernel
theorem d_M_near_85 : decode b_M_near 85 = .ok (.iinc 4 1, 3) := by decide +kernel
theorem d_M_near_88 : decode b_M_near 88 = .ok (.goto (-57), 3) := by decide +kernel
theorem d_M_near_91 : decode b_M_near 91 = .ok (.iconst (-1), 1) := by decide +kernel
theorem d_M_near_92 : decode b_M_near 92 = .ok (.ireturn, 1) := by decide +kernel
theorem d_M_comesTo_0 : decode b_M_comesTo 0 = .ok (.iload_n 1, 1) := by decide +kernel
theorem d_M_comesTo_1 : decode b_M_comesTo 1 = .ok (.istore_n 3, 1) := by decide +kernel
theorem d_M_comesTo_2 : decode b_M_comesTo 2 = .ok (.iload_n 3, 1) := by decide +kernel
theorem d_M_comesTo_3 : decode b_M_comesTo 3 = .ok (.ifCond .lt 18, 3) := by decide +kernel
theorem d_M_comesTo_6 : decode b_M_comesTo 6 = .ok (.iload_n 3, 1) := by decide +kernel
theorem d_M_comesTo_7 : decode b_M_comesTo 7 = .ok (.iload_n 2, 1) := by decide +kernel
theorem d_M_comesTo_8 : decode b_M_comesTo 8 = .ok (.if_icmp .eq 13, 3) := by decide +kernel
theorem d_M_comesTo_11 : decode b_M_comesTo 11 = .ok (.aload_n 0, 1) := by decide +kernel
theorem d_M_comesTo_12 : decode b_M_comesTo 12 = .ok (.getfield 26, 3) := by decide +kernel
theorem d_M_comesTo_15 : decode b_M_comesTo 15 = .ok (.iload_n 3, 1) := by decide +kernel
theorem d_M_comesTo_16 : decode b_M_comesTo 16 = .ok (.iaload, 1) := by decide +kernel
theorem d_M_comesTo_17 : decode b_M_comesTo 17 = .ok (.istore_n 3, 1) := by decide +kernel
theorem d_M_comesTo_18 : decode b_M_comesTo 18 = .ok (.goto (-16), 3) := by decide +kernel
theorem d_M_comesTo_21 : decode b_M_comesTo 21 = .ok (.iload_n 3, 1) := by decide +kernel
theorem d_M_comesTo_22 : decode b_M_comesTo 22 = .ok (.ifCond .lt 7, 3) := by decide +kernel
theorem d_M_comesTo_25 : decode b_M_comesTo 25 = .ok (.iconst 1, 1) := by decide +kernel
theorem d_M_comesTo_26 : decode b_M_comesTo 26 = .ok (.goto 4, 3) := by decide +kernel
theorem d_M_comesTo_29 : decode b_M_comesTo 29 = .ok (.iconst 0, 1) := by decide +kernel
theorem d_M_comesTo_30 : decode b_M_comesTo 30 = .ok (.ireturn, 1) := by decide +kernel
theorem d_M_alias_0 : decode b_M_alias 0 = .ok (.aload_n 0, 1) := by decide +kernel
theorem d_M_alias_1 : decode b_M_alias 1 = .ok (.aload_n 0, 1) := by decide +kernel
theorem d_M_alias_2 : decode b_M_alias 2 = .ok (.iload_n 1, 1) := by decide +kernel
theorem d_M_alias_3 : decode b_M_alias 3 = .ok (.invokevirtual 89, 3) := by decide +kernel
theorem d_M_alias_6 : decode b_M_alias 6 = .ok (.ifCond .ne 11, 3) := by decide +kernel
theorem d_M_alias_9 : decode b_M_alias 9 = .ok (.aload_n 0, 1) := by decide +kernel
theorem d_M_alias_10 : decode b_M_alias 10 = .ok (.iload_n 2, 1) := by decide +kernel
theorem d_M_alias_11 : decode b_M_alias 11 = .ok (.invokevirtual 89, 3) := by decide +kernel
theorem d_M_alias_14 : decode b_M_alias 14 = .ok (.ifCond .eq 7, 3) := by decide +kernel
theorem d_M_alias_17 : decode b_M_alias 17 = .ok (.iconst 1, 1) := by decide +kernel
theorem d_M_alias_18 : decode b_M_alias 18 = .ok (.goto 4, 3) := by decide +kernel
theorem d_M_alias_21 : decode b_M_alias 21 = .ok (.iconst 0, 1) := by decide +kernel
theorem d_M_alias_22 : decode b_M_alias 22 = .ok (.invokevirtual 57, 3) := by decide +kernel
theorem d_M_alias_25 : decode b_M_alias 25 = .ok (.ifCond .eq 5, 3) := by decide +kernel
theorem d_M_alias_28 : decode b_M_alias 28 = .ok (.iconst 0, 1) := by decide +kernel
theorem d_M_alias_29 : decode b_M_alias 29 = .ok (.ireturn, 1) := by decide +kernel
theorem d_M_alias_30 : decode b_M_alias 30 = .ok (.aload_n 0, 1) := by decide +kernel
theorem d_M_alias_31 : decode b_M_alias 31 = .ok (.iload_n 2, 1) := by decide +kernel
theorem d_M_alias_32 : decode b_M_alias 32 = .ok (.iload_n 1, 1) := by decide +kernel
theorem d_M_alias_33 : decode b_M_alias 33 = .ok (.invokevirtual 137, 3) := by decide +kernel
theorem d_M_alias_36 : decode b_M_alias 36 = .ok (.ifCond .eq 12, 3) := by decide +kernel
theorem d_M_alias_39 : decode b_M_alias 39 = .ok (.aload_n 0, 1) := by decide +kernel
theorem d_M_alias_40 : decode b_M_alias 40 = .ok (.iconst 3, 1) := by decide +kernel
theorem d_M_alias_41 : decode b_M_alias 41 = .ok (.iload_n 1, 1) := by decide +kernel
theorem d_M_alias_42 : decode b_M_alias 42 = .ok (.iload_n 2, 1) := by decide +kernel
theorem d_M_alias_43 : decode b_M_alias 43 = .ok (.invokevirtual 95, 3) := by decide +kernel
theorem d_M_alias_46 : decode b_M_alias 46 = .ok (.iconst 0, 1) := by decide +kernel
theorem d_M_alias_47 : decode b_M_alias 47 = .ok (.ireturn, 1) := by decide +kernel
theorem d_M_alias_48 : decode b_M_alias 48 = .ok (.aload_n 0, 1) := by decide +kernel
theorem d_M_alias_49 : decode b_M_alias 49 = .ok (.getfield 26, 3) := by decide +kernel
theorem d_M_alias_52 : decode b_M_alias 52 = .ok (.iload_n 1, 1) := by decide +kernel
theorem d_M_alias_53 : decode b_M_alias 53 = .ok (.iload_n 2, 1) := by decide +kernel
theorem d_M_alias_54 : decode b_M_alias 54 = .ok (.iastore, 1) := by decide +kernel
theorem d_M_alias_55 : decode b_M_alias 55 = .ok (.iconst 1, 1) := by decide +kernel
theorem d_M_alias_56 : decode b_M_alias 56 = .ok (.ireturn, 1) := by decide +kernel
theorem d_M_meaning_0 : decode b_M_meaning 0 = .ok (.aload_n 0, 1) := by decide +kernel
theorem d_M_meaning_1 : decode b_M_meaning 1 = .ok (.aload_n 0, 1) := by decide +kernel
theorem d_M_meaning_2 : decode b_M_meaning 2 = .ok (.iload_n 1, 1) := by decide +kernel
theorem d_M_meaning_3 : decode b_M_meaning 3 = .ok (.invokevirtual 89, 3) := by decide +kernel
theorem d_M_meaning_6 : decode b_M_meaning 6 = .ok (.ifCond .eq 7, 3) := by decide +kernel
theorem d_M_meaning_9 : decode b_M_meaning 9 = .ok (.iconst 1, 1) := by decide +kernel
theorem d_M_meaning_10 : decode b_M_meaning 10 = .ok (.goto 4, 3) := by decide +kernel
theorem d_M_meaning_13 : decode b_M_meaning 13 = .ok (.iconst 0, 1) := by decide +kernel
theorem d_M_meaning_14 : decode b_M_meaning 14 = .ok (.invokevirtual 57, 3) := by decide +kernel
theorem d_M_meaning_17 : decode b_M_meaning 17 = .ok (.ifCond .eq 5, 3) := by decide +kernel
theorem d_M_meaning_20 : decode b_M_meaning 20 = .ok (.iconst 0, 1) := by decide +kernel
theorem d_M_meaning_21 : decode b_M_meaning 21 = .ok (.ireturn, 1) := by decide +kernel
theorem d_M_meaning_22 : decode b_M_meaning 22 = .ok (.iload_n 1, 1) := by decide +kernel
theorem d_M_meaning_23 : decode b_M_meaning 23 = .ok (.istore_n 2, 1) := by decide +kernel
theorem d_M_meaning_24 : decode b_M_meaning 24 = .ok (.aload_n 0, 1) := by decide +kernel
theorem d_M_meaning_25 : decode b_M_meaning 25 = .ok (.getfield 26, 3) := by decide +kernel
theorem d_M_meaning_28 : decode b_M_meaning 28 = .ok (.iload_n 2, 1) := by decide +kernel
theorem d_M_meaning_29 : decode b_M_meaning 29 = .ok (.iaload, 1) := by decide +kernel
theorem d_M_meaning_30 : decode b_M_meaning 30 = .ok (.ifCond .lt 13, 3) := by decide +kernel
theorem d_M_meaning_33 : decode b_M_meaning 33 = .ok (.aload_n 0, 1) := by decide +kernel
theorem d_M_meaning_34 : decode b_M_meaning 34 = .ok (.getfield 26, 3) := by decide +kernel
theorem d_M_meaning_37 : decode b_M_meaning 37 = .ok (.iload_n 2, 1) := by decide +kernel
theorem d_M_meaning_38 : decode b_M_meaning 38 = .ok (.iaload, 1) := by decide +kernel
theorem d_M_meaning_39 : decode b_M_meaning 39 = .ok (.istore_n 2, 1) := by decide +kernel
theorem d_M_meaning_40 : decode b_M_meaning 40 = .ok (.goto (-16), 3) := by decide +kernel
theorem d_M_meaning_43 : decode b_M_meaning 43 = .ok (.iload_n 2, 1) := by decide +kernel
theorem d_M_meaning_44 : decode b_M_meaning 44 = .ok (.ireturn, 1) := by decide +kernel
theorem d_M_join_0 : decode b_M_join 0 = .ok (.aload_n 0, 1) := by decide +kernel
theorem d_M_join_1 : decode b_M_join 1 = .ok (.aload_n 0, 1) := by decide +kernel
theorem d_M_join_2 : decode b_M_join 2 = .ok (.iload_n 1, 1) := by decide +kernel
theorem d_M_join_3 : decode b_M_join 3 = .ok (.invokevirtual 89, 3) := by decide +kernel
theorem d_M_join_6 : decode b_M_join 6 = .ok (.ifCond .ne 11, 3) := by decide +kernel
theorem d_M_join_9 : decode b_M_join 9 = .ok (.aload_n 0, 1) := by decide +kernel
theorem d_M_join_10 : decode b_M_join 10 = .ok (.iload_n 2, 1) := by decide +kernel
theorem d_M_join_11 : decode b_M_join 11 = .ok (.invokevirtual 89, 3) := by decide +kernel
theorem d_M_join_14 : decode b_M_join 14 = .ok (.ifCond .eq 7, 3) := by decide +kernel
theorem d_M_join_17 : decode b_M_join 17 = .ok (.iconst 1, 1) := by decide +kernel
theorem d_M_join_18 : decode b_M_join 18 = .ok (.goto 17, 3) := by decide +kernel
theorem d_M_join_21 : decode b_M_join 21 = .ok (.iload_n 3, 1) := by decide +kernel
theorem d_M_join_22 : decode b_M_join 22 = .ok (.ifCond .lt 8, 3) := by decide +kernel
theorem d_M_join_25 : decode b_M_join 25 = .ok (.iload_n 3, 1) := by decide +kernel
theorem d_M_join_26 : decode b_M_join 26 = .ok (.iconst 1, 1) := by decide +kernel
theorem d_M_join_27 : decode b_M_join 27 = .ok (.if_icmp .le 7, 3) := by decide +kernel
theorem d_M_join_30 : decode b_M_join 30 = .ok (.iconst 2, 1) := by decide +kernel
theorem d_M_join_31 : decode b_M_join 31 = .ok (.goto 4, 3) := by decide +kernel
theorem d_M_join_34 : decode b_M_join 34 = .ok (.iconst 0, 1) := by decide +kernel
theorem d_M_join_35 : decode b_M_join 35 = .ok (.invokevirtual 57, 3) := by decide +kernel
theorem d_M_join_38 : decode b_M_join 38 = .ok (.ifCond .eq 5, 3) := by decide +kernel
theorem d_M_join_41 : decode b_M_join 41 = .ok (.iconst 0, 1) := by decide +kernel
theorem d_M_join_42 : decode b_M_join 42 = .ok (.ireturn, 1) := by decide +kernel
theorem d_M_join_43 : decode b_M_join 43 = .ok (.iconst 0, 1) := by decide +kernel
theorem d_M_join_44 : decode b_M_join 44 = .ok (.istore 4, 2) := by decide +kernel
theorem d_M_join_46 : decode b_M_join 46 = .ok (.iconst 0, 1) := by decide +kernel
theorem d_M_join_47 : decode b_M_join 47 = .ok (.istore 5, 2) := by decide +kernel
theorem d_M_join_49 : decode b_M_join 49 = .ok (.iload 5, 2) := by decide +kernel
theorem d_M_join_51 : decode b_M_join 51 = .ok (.aload_n 0, 1) := by decide +kernel
theorem d_M_join_52 : decode b_M_join 52 = .ok (.getfield 16, 3) := by decide +kernel
theorem d_M_join_55 : decode b_M_join 55 = .ok (.iload_n 1, 1) := by decide +kernel
theorem d_M_join_56 : decode b_M_join 56 = .ok (.iaload, 1) := by decide +kernel
theorem d_M_join_57 : decode b_M_join 57 = .ok (.if_icmp .ge 36, 3) := by decide +kernel
theorem d_M_join_60 : decode b_M_join 60 = .ok (.iload_n 3, 1) := by decide +kernel
theorem d_M_join_61 : decode b_M_join 61 = .ok (.ifCond .ne 32, 3) := by decide +kernel
theorem d_M_join_64 : decode b_M_join 64 = .ok (.aload_n 0, 1) := by decide +kernel
theorem d_M_join_65 : decode b_M_join 65 = .ok (.iload_n 1, 1) := by decide +kernel
theorem d_M_join_66 : decode b_M_join 66 = .ok (.iload 5, 2) := by decide +kernel
theorem d_M_join_68 : decode b_M_join 68 = .ok (.invokevirtual 64, 3) := by decide +kernel
theorem d_M_join_71 : decode b_M_join 71 = .ok (.bipush 47, 2) := by decide +kernel
theorem d_M_join_73 : decode b_M_join 73 = .ok (.if_icmp .ne 10, 3) := by decide +kernel
theorem d_M_join_76 : decode b_M_join 76 = .ok (.iload 5, 2) := by decide +kernel
theorem d_M_join_78 : decode b_M_join 78 = .ok (.iconst 1, 1) := by decide +kernel
theorem d_M_join_79 : decode b_M_join 79 = .ok (.iadd, 1) := by decide +kernel
theorem d_M_join_80 : decode b_M_join 80 = .ok (.goto 5, 3) := by decide +kernel
theorem d_M_join_83 : decode b_M_join 83 = .ok (.iload 4, 2) := by decide +kernel
theorem d_M_join_85 : decode b_M_join 85 = .ok (.istore 4, 2) := by decide +kernel
theorem d_M_join_87 : decode b_M_join 87 = .ok (.iinc 5 1, 3) := by decide +kernel
theorem d_M_join_90 : decode b_M_join 90 = .ok (.goto (-41), 3) := by decide +kernel
theorem d_M_join_93 : decode b_M_join 93 = .ok (.iload_n 3, 1) := by decide +kernel
theorem d_M_join_94 : decode b_M_join 94 = .ok (.iconst 1, 1) := by decide +kernel
theorem d_M_join_95 : decode b_M_join 95 = .ok (.if_icmp .ne 32, 3) := by decide +kernel
theorem d_M_join_98 : decode b_M_join 98 = .ok (.iload 4, 2) := by decide +kernel
theorem d_M_join_100 : decode b_M_join 100 = .ok (.aload_n 0, 1) := by decide +kernel
theorem d_M_join_101 : decode b_M_join 101 = .ok (.getfield 16, 3) := by decide +kernel
theorem d_M_join_104 : decode b_M_join 104 = .ok (.iload_n 1, 1) := by decide +kernel
theorem d_M_join_105 : decode b_M_join 105 = .ok (.iaload, 1) := by decide +kernel
theorem d_M_join_106 : decode b_M_join 106 = .ok (.if_icmp .ge 21, 3) := by decide +kernel
theorem d_M_join_109 : decode b_M_join 109 = .ok (.aload_n 0, 1) := by decide +kernel
theorem d_M_join_110 : decode b_M_join 110 = .ok (.iload_n 1, 1) := by decide +kernel
theorem d_M_join_111 : decode b_M_join 111 = .ok (.iload 4, 2) := by decide +kernel
theorem d_M_join_113 : decode b_M_join 113 = .ok (.invokevirtual 64, 3) := by decide +kernel
theorem d_M_join_116 : decode b_M_join 116 = .ok (.bipush 35, 2) := by decide +kernel
theorem d_M_join_118 : decode b_M_join 118 = .ok (.if_icmp .eq 9, 3) := by decide +kernel
theorem d_M_join_121 : decode b_M_join 121 = .ok (.iinc 4 1, 3) := by decide +kernel
theorem d_M_join_124 : decode b_M_join 124 = .ok (.goto (-31), 3) := by decide +kernel
theorem d_M_join_127 : decode b_M_join 127 = .ok (.aload_n 0, 1) := by decide +kernel
theorem d_M_join_128 : decode b_M_join 128 = .ok (.invokevirtual 72, 3) := by decide +kernel
theorem d_M_join_131 : decode b_M_join 131 = .ok (.iconst 0, 1) := by decide +kernel
theorem d_M_join_132 : decode b_M_join 132 = .ok (.istore 5, 2) := by decide +kernel
theorem d_M_join_134 : decode b_M_join 134 = .ok (.iload 5, 2) := by decide +kernel
theorem d_M_join_136 : decode b_M_join 136 = .ok (.iload 4, 2) := by decide +kernel
theorem d_M_join_138 : decode b_M_join 138 = .ok (.if_icmp .ge 20, 3) := by decide +kernel
theorem d_M_join_141 : decode b_M_join 141 = .ok (.aload_n 0, 1) := by decide +kernel
theorem d_M_join_142 : decode b_M_join 142 = .ok (.aload_n 0, 1) := by decide +kernel
theorem d_M_join_143 : decode b_M_join 143 = .ok (.iload_n 1, 1) := by decide +kernel
theorem d_M_join_144 : decode b_M_join 144 = .ok (.iload 5, 2) := by decide +kernel
theorem d_M_join_146 : decode b_M_join 146 = .ok (.invokevirtual 64, 3) := by decide +kernel
theorem d_M_join_149 : decode b_M_join 149 = .ok (.invokevirtual 75, 3) := by decide +kernel
theorem d_M_join_152 : decode b_M_join 152 = .ok (.iinc 5 1, 3) := by decide +kernel
theorem d_M_join_155 : decode b_M_join 155 = .ok (.goto (-21), 3) := by decide +kernel
theorem d_M_join_158 : decode b_M_join 158 = .ok (.iload_n 3, 1) := by decide +kernel
theorem d_M_join_159 : decode b_M_join 159 = .ok (.iconst 1, 1) := by decide +kernel
theorem d_M_join_160 : decode b_M_join 160 = .ok (.if_icmp .ne 9, 3) := by decide +kernel
theorem d_M_join_163 : decode b_M_join 163 = .ok (.aload_n 0, 1) := by decide +kernel
theorem d_M_join_164 : decode b_M_join 164 = .ok (.bipush 35, 2) := by decide +kernel
theorem d_M_join_166 : decode b_M_join 166 = .ok (.invokevirtual 75, 3) := by decide +kernel
theorem d_M_join_169 : decode b_M_join 169 = .ok (.iconst 0, 1) := by decide +kernel
theorem d_M_join_170 : decode b_M_join 170 = .ok (.istore 5, 2) := by decide +kernel
theorem d_M_join_172 : decode b_M_join 172 = .ok (.iload 5, 2) := by decide +kernel
theorem d_M_join_174 : decode b_M_join 174 = .ok (.aload_n 0, 1) := by decide +kernel
theorem d_M_join_175 : decode b_M_join 175 = .ok (.getfield 16, 3) := by decide +kernel
theorem d_M_join_178 : decode b_M_join 178 = .ok (.iload_n 2, 1) := by decide +kernel
theorem d_M_join_179 : decode b_M_join 179 = .ok (.iaload, 1) := by decide +kernel
theorem d_M_join_180 : decode b_M_join 180 = .ok (.if_icmp .ge 20, 3) := by decide +kernel
theorem d_M_join_183 : decode b_M_join 183 = .ok (.aload_n 0, 1) := by decide +kernel
theorem d_M_join_184 : decode b_M_join 184 = .ok (.aload_n 0, 1) := by decide +kernel
theorem d_M_join_185 : decode b_M_join 185 = .ok (.iload_n 2, 1) := by decide +kernel
theorem d_M_join_186 : decode b_M_join 186 = .ok (.iload 5, 2) := by decide +kernel
theorem d_M_join_188 : decode b_M_join 188 = .ok (.invokevirtual 64, 3) := by decide +kernel
theorem d_M_join_191 : decode b_M_join 191 = .ok (.invokevirtual 75, 3) := by decide +kernel
theorem d_M_join_194 : decode b_M_join 194 = .ok (.iinc 5 1, 3) := by decide +kernel
theorem d_M_join_197 : decode b_M_join 197 = .ok (.goto (-25), 3) := by decide +kernel
theorem d_M_join_200 : decode b_M_join 200 = .ok (.aload_n 0, 1) := by decide +kernel
theorem d_M_join_201 : decode b_M_join 201 = .ok (.aload_n 0, 1) := by decide +kernel
theorem d_M_join_202 : decode b_M_join 202 = .ok (.invokevirtual 79, 3) := by decide +kernel
theorem d_M_join_205 : decode b_M_join 205 = .ok (.ifCond .eq 7, 3) := by decide +kernel
theorem d_M_join_208 : decode b_M_join 208 = .ok (.iconst 3, 1) := by decide +kernel
theorem d_M_join_209 : decode b_M_join 209 = .ok (.goto 4, 3) := by decide +kernel
theorem d_M_join_212 : decode b_M_join 212 = .ok (.iconst 0, 1) := by decide +kernel
theorem d_M_join_213 : decode b_M_join 213 = .ok (.invokevirtual 57, 3) := by decide +kernel
theorem d_M_join_216 : decode b_M_join 216 = .ok (.ifCond .eq 7, 3) := by decide +kernel
theorem d_M_join_219 : decode b_M_join 219 = .ok (.iconst 0, 1) := by decide +kernel
theorem d_M_join_220 : decode b_M_join 220 = .ok (.goto 7, 3) := by decide +kernel
theorem d_M_join_223 : decode b_M_join 223 = .ok (.aload_n 0, 1) := by decide +kernel
theorem d_M_join_224 : decode b_M_join 224 = .ok (.invokevirtual 83, 3) := by decide +kernel
theorem d_M_join_227 : decode b_M_join 227 = .ok (.ireturn, 1) := by decide +kernel
theorem d_M_canNotRename_0 : decode b_M_canNotRename 0 = .ok (.aload_n 0, 1) := by decide +kernel
theorem d_M_canNotRename_1 : decode b_M_canNotRename 1 = .ok (.iload_n 1, 1) := by decide +kernel
theorem d_M_canNotRename_2 : decode b_M_canNotRename 2 = .ok (.invokevirtual 128, 3) := by decide +kernel
theorem d_M_canNotRename_5 : decode b_M_canNotRename 5 = .ok (.istore_n 3, 1) := by decide +kernel
theorem d_M_canNotRename_6 : decode b_M_canNotRename 6 = .ok (.aload_n 0, 1) := by decide +kernel
theorem d_M_canNotRename_7 : decode b_M_canNotRename 7 = .ok (.iload_n 2, 1) := by decide +kernel
theorem d_M_canNotRename_8 : decode b_M_canNotRename 8 = .ok (.invokevirtual 128, 3) := by decide +kernel
theorem d_M_canNotRename_11 : decode b_M_canNotRename 11 = .ok (.istore 4, 2) := by decide +kernel
theorem d_M_canNotRename_13 : decode b_M_canNotRename 13 = .ok (.iload_n 3, 1) := by decide +kernel
theorem d_M_canNotRename_14 : decode b_M_canNotRename 14 = .ok (.ifCond .lt 19, 3) := by decide +kernel
theorem d_M_canNotRename_17 : decode b_M_canNotRename 17 = .ok (.iload 4, 2) := by decide +kernel
theorem d_M_canNotRename_19 : decode b_M_canNotRename 19 = .ok (.ifCond .lt 14, 3) := by decide +kernel
theorem d_M_canNotRename_22 : decode b_M_canNotRename 22 = .ok (.aload_n 0, 1) := by decide +kernel
theorem d_M_canNotRename_23 : decode b_M_canNotRename 23 = .ok (.iconst 4, 1) := by decide +kernel
theorem d_M_canNotRename_24 : decode b_M_canNotRename 24 = .ok (.iload_n 3, 1) := by decide +kernel
theorem d_M_canNotRename_25 : decode b_M_canNotRename 25 = .ok (.iload 4, 2) := by decide +kernel
theorem d_M_canNotRename_27 : decode b_M_canNotRename 27 = .ok (.invokevirtual 95, 3) := by decide +kernel
theorem d_M_canNotRename_30 : decode b_M_canNotRename 30 = .ok (.goto 71, 3) := by decide +kernel
theorem d_M_canNotRename_33 : decode b_M_canNotRename 33 = .ok (.aload_n 0, 1) := by decide +kernel
theorem d_M_canNotRename_34 : decode b_M_canNotRename 34 = .ok (.getfield 26, 3) := by decide +kernel
theorem d_M_canNotRename_37 : decode b_M_canNotRename 37 = .ok (.iload_n 1, 1) := by decide +kernel
theorem d_M_canNotRename_38 : decode b_M_canNotRename 38 = .ok (.iaload, 1) := by decide +kernel
theorem d_M_canNotRename_39 : decode b_M_canNotRename 39 = .ok (.ifCond .lt 32, 3) := by decide +kernel
theorem d_M_canNotRename_42 : decode b_M_canNotRename 42 = .ok (.aload_n 0, 1) := by decide +kernel
theorem d_M_canNotRename_43 : decode b_M_canNotRename 43 = .ok (.getfield 26, 3) := by decide +kernel
theorem d_M_canNotRename_46 : decode b_M_canNotRename 46 = .ok (.iload_n 2, 1) := by decide +kernel
theorem d_M_canNotRename_47 : decode b_M_canNotRename 47 = .ok (.iaload, 1) := by decide +kernel
theorem d_M_canNotRename_48 : decode b_M_canNotRename 48 = .ok (.ifCond .lt 23, 3) := by decide +kernel
theorem d_M_canNotRename_51 : decode b_M_canNotRename 51 = .ok (.aload_n 0, 1) := by decide +kernel
theorem d_M_canNotRename_52 : decode b_M_canNotRename 52 = .ok (.iconst 5, 1) := by decide +kernel
theorem d_M_canNotRename_53 : decode b_M_canNotRename 53 = .ok (.aload_n 0, 1) := by decide +kernel
theorem d_M_canNotRename_54 : decode b_M_canNotRename 54 = .ok (.getfield 26, 3) := by decide +kernel
theorem d_M_canNotRename_57 : decode b_M_canNotRename 57 = .ok (.iload_n 1, 1) := by decide +kernel
theorem d_M_canNotRename_58 : decode b_M_canNotRename 58 = .ok (.iaload, 1) := by decide +kernel
theorem d_M_canNotRename_59 : decode b_M_canNotRename 59 = .ok (.aload_n 0, 1) := by decide +kernel
theorem d_M_canNotRename_60 : decode b_M_canNotRename 60 = .ok (.getfield 26, 3) := by decide +kernel
theorem d_M_canNotRename_63 : decode b_M_canNotRename 63 = .ok (.iload_n 2, 1) := by decide +kernel
theorem d_M_canNotRename_64 : decode b_M_canNotRename 64 = .ok (.iaload, 1) := by decide +kernel
theorem d_M_canNotRename_65 : decode b_M_canNotRename 65 = .ok (.invokevirtual 95, 3) := by decide +kernel
theorem d_M_canNotRename_68 : decode b_M_canNotRename 68 = .ok (.goto 33, 3) := by decide +kernel
theorem d_M_canNotRename_71 : decode b_M_canNotRename 71 = .ok (.aload_n 0, 1) := by decide +kernel
theorem d_M_canNotRename_72 : decode b_M_canNotRename 72 = .ok (.iload_n 1, 1) := by decide +kernel
theorem d_M_canNotRename_73 : decode b_M_canNotRename 73 = .ok (.iload_n 2, 1) := by decide +kernel
theorem d_M_canNotRename_74 : decode b_M_canNotRename 74 = .ok (.invokevirtual 137, 3) := by decide +kernel
theorem d_M_canNotRename_77 : decode b_M_canNotRename 77 = .ok (.ifCond .ne 12, 3) := by decide +kernel
theorem d_M_canNotRename_80 : decode b_M_canNotRename 80 = .ok (.aload_n 0, 1) := by decide +kernel
theorem d_M_canNotRename_81 : decode b_M_canNotRename 81 = .ok (.iload_n 2, 1) := by decide +kernel
theorem d_M_canNotRename_82 : decode b_M_canNotRename 82 = .ok (.iload_n 1, 1) := by decide +kernel
theorem d_M_canNotRename_83 : decode b_M_canNotRename 83 = .ok (.invokevirtual 137, 3) := by decide +kernel
theorem d_M_canNotRename_86 : decode b_M_canNotRename 86 = .ok (.ifCond .eq 13, 3) := by decide +kernel
theorem d_M_canNotRename_89 : decode b_M_canNotRename 89 = .ok (.aload_n 0, 1) := by decide +kernel
theorem d_M_canNotRename_90 : decode b_M_canNotRename 90 = .ok (.iconst 3, 1) := by decide +kernel
theorem d_M_canNotRename_91 : decode b_M_canNotRename 91 = .ok (.iload_n 1, 1) := by decide +kernel
theorem d_M_canNotRename_92 : decode b_M_canNotRename 92 = .ok (.iload_n 2, 1) := by decide +kernel
theorem d_M_canNotRename_93 : decode b_M_canNotRename 93 = .ok (.invokevirtual 95, 3) := by decide +kernel
theorem d_M_canNotRename_96 : decode b_M_canNotRename 96 = .ok (.goto 5, 3) := by decide +kernel
theorem d_M_canNotRename_99 : decode b_M_canNotRename 99 = .ok (.iconst 0, 1) := by decide +kernel
theorem d_M_canNotRename_100 : decode b_M_canNotRename 100 = .ok (.ireturn, 1) := by decide +kernel
theorem d_M_canNotRename_101 : decode b_M_canNotRename 101 = .ok (.iconst 1, 1) := by decide +kernel
theorem d_M_canNotRename_102 : decode b_M_canNotRename 102 = .ok (.ireturn, 1) := by decide +kernel
theorem d_M_rename_0 : decode b_M_rename 0 = .ok (.aload_n 0, 1) := by decide +kernel
theorem d_M_rename_1 : decode b_M_rename 1 = .ok (.aload_n 0, 1) := by decide +kernel
theorem d_M_rename_2 : decode b_M_rename 2 = .ok (.iload_n 1, 1) := by decide +kernel
theorem d_M_rename_3 : decode b_M_rename 3 = .ok (.invokevirtual 89, 3) := by decide +kernel
theorem d_M_rename_6 : decode b_M_rename 6 = .ok (.ifCond .ne 11, 3) := by decide +kernel
theorem d_M_rename_9 : decode b_M_rename 9 = .ok (.aload_n 0, 1) := by decide +kernel
theorem d_M_rename_10 : decode b_M_rename 10 = .ok (.iload_n 2, 1) := by decide +kernel
theorem d_M_rename_11 : decode b_M_rename 11 = .ok (.invokevirtual 89, 3) := by decide +kernel
theorem d_M_rename_14 : decode b_M_rename 14 = .ok (.ifCond .eq 7, 3) := by decide +kernel
theorem d_M_rename_17 : decode b_M_rename 17 = .ok (.iconst 1, 1) := by decide +kernel
theorem d_M_rename_18 : decode b_M_rename 18 = .ok (.goto 13, 3) := by decide +kernel
theorem d_M_rename_21 : decode b_M_rename 21 = .ok (.iload_n 1, 1) := by decide +kernel
theorem d_M_rename_22 : decode b_M_rename 22 = .ok (.iload_n 2, 1) := by decide +kernel
theorem d_M_rename_23 : decode b_M_rename 23 = .ok (.if_icmp .ne 7, 3) := by decide +kernel
theorem d_M_rename_26 : decode b_M_rename 26 = .ok (.iconst 2, 1) := by decide +kernel
theorem d_M_rename_27 : decode b_M_rename 27 = .ok (.goto 4, 3) := by decide +kernel
theorem d_M_rename_30 : decode b_M_rename 30 = .ok (.iconst 0, 1) := by decide +kernel
theorem d_M_rename_31 : decode b_M_rename 31 = .ok (.invokevirtual 57, 3) := by decide +kernel
theorem d_M_rename_34 : decode b_M_rename 34 = .ok (.ifCond .eq 5, 3) := by decide +kernel
theorem d_M_rename_37 : decode b_M_rename 37 = .ok (.iconst 0, 1) := by decide +kernel
theorem d_M_rename_38 : decode b_M_rename 38 = .ok (.ireturn, 1) := by decide +kernel
theorem d_M_rename_39 : decode b_M_rename 39 = .ok (.aload_n 0, 1) := by decide +kernel
theorem d_M_rename_40 : decode b_M_rename 40 = .ok (.iload_n 1, 1) := by decide +kernel
theorem d_M_rename_41 : decode b_M_rename 41 = .ok (.iload_n 2, 1) := by decide +kernel
theorem d_M_rename_42 : decode b_M_rename 42 = .ok (.invokevirtual 140, 3) := by decide +kernel
theorem d_M_rename_45 : decode b_M_rename 45 = .ok (.ifCond .eq 5, 3) := by decide +kernel
theorem d_M_rename_48 : decode b_M_rename 48 = .ok (.iconst (-1), 1) := by decide +kernel
theorem d_M_rename_49 : decode b_M_rename 49 = .ok (.ireturn, 1) := by decide +kernel
theorem d_M_rename_50 : decode b_M_rename 50 = .ok (.aload_n 0, 1) := by decide +kernel
theorem d_M_rename_51 : decode b_M_rename 51 = .ok (.aload_n 0, 1) := by decide +kernel
theorem d_M_rename_52 : decode b_M_rename 52 = .ok (.getfield 143, 3) := by decide +kernel
theorem d_M_rename_55 : decode b_M_rename 55 = .ok (.bipush 20, 2) := by decide +kernel
theorem d_M_rename_57 : decode b_M_rename 57 = .ok (.if_icmp .ne 7, 3) := by decide +kernel
theorem d_M_rename_60 : decode b_M_rename 60 = .ok (.iconst 3, 1) := by decide +kernel
theorem d_M_rename_61 : decode b_M_rename 61 = .ok (.goto 4, 3) := by decide +kernel
theorem d_M_rename_64 : decode b_M_rename 64 = .ok (.iconst 0, 1) := by decide +kernel
theorem d_M_rename_65 : decode b_M_rename 65 = .ok (.invokevirtual 57, 3) := by decide +kernel
theorem d_M_rename_68 : decode b_M_rename 68 = .ok (.ifCond .eq 5, 3) := by decide +kernel
theorem d_M_rename_71 : decode b_M_rename 71 = .ok (.iconst 0, 1) := by decide +kernel
theorem d_M_rename_72 : decode b_M_rename 72 = .ok (.ireturn, 1) := by decide +kernel
theorem d_M_rename_73 : decode b_M_rename 73 = .ok (.iconst 0, 1) := by decide +kernel
theorem d_M_rename_74 : decode b_M_rename 74 = .ok (.istore_n 3, 1) := by decide +kernel
theorem d_M_rename_75 : decode b_M_rename 75 = .ok (.iconst 0, 1) := by decide +kernel
theorem d_M_rename_76 : decode b_M_rename 76 = .ok (.istore 4, 2) := by decide +kernel
theorem d_M_rename_78 : decode b_M_rename 78 = .ok (.iload 4, 2) := by decide +kernel
theorem d_M_rename_80 : decode b_M_rename 80 = .ok (.iconst 3, 1) := by decide +kernel
theorem d_M_rename_81 : decode b_M_rename 81 = .ok (.aload_n 0, 1) := by decide +kernel
theorem d_M_rename_82 : decode b_M_rename 82 = .ok (.getfield 125, 3) := by decide +kernel
theorem d_M_rename_85 : decode b_M_rename 85 = .ok (.imul, 1) := by decide +kernel
theorem d_M_rename_86 : decode b_M_rename 86 = .ok (.if_icmp .ge 34, 3) := by decide +kernel
theorem d_M_rename_89 : decode b_M_rename 89 = .ok (.aload_n 0, 1) := by decide +kernel
theorem d_M_rename_90 : decode b_M_rename 90 = .ok (.getfield 29, 3) := by decide +kernel
theorem d_M_rename_93 : decode b_M_rename 93 = .ok (.iload 4, 2) := by decide +kernel
theorem d_M_rename_95 : decode b_M_rename 95 = .ok (.iaload, 1) := by decide +kernel
theorem d_M_rename_96 : decode b_M_rename 96 = .ok (.iload_n 1, 1) := by decide +kernel
theorem d_M_rename_97 : decode b_M_rename 97 = .ok (.if_icmp .eq 6, 3) := by decide +kernel
theorem d_M_rename_100 : decode b_M_rename 100 = .ok (.goto 14, 3) := by decide +kernel
theorem d_M_rename_103 : decode b_M_rename 103 = .ok (.aload_n 0, 1) := by decide +kernel
theorem d_M_rename_104 : decode b_M_rename 104 = .ok (.getfield 29, 3) := by decide +kernel
theorem d_M_rename_107 : decode b_M_rename 107 = .ok (.iload 4, 2) := by decide +kernel
theorem d_M_rename_109 : decode b_M_rename 109 = .ok (.iload_n 2, 1) := by decide +kernel
theorem d_M_rename_110 : decode b_M_rename 110 = .ok (.iastore, 1) := by decide +kernel
theorem d_M_rename_111 : decode b_M_rename 111 = .ok (.iinc 3 1, 3) := by decide +kernel
theorem d_M_rename_114 : decode b_M_rename 114 = .ok (.iinc 4 1, 3) := by decide +kernel
theorem d_M_rename_117 : decode b_M_rename 117 = .ok (.goto (-39), 3) := by decide +kernel
theorem d_M_rename_120 : decode b_M_rename 120 = .ok (.iconst 0, 1) := by decide +kernel
theorem d_M_rename_121 : decode b_M_rename 121 = .ok (.istore 4, 2) := by decide +kernel
theorem d_M_rename_123 : decode b_M_rename 123 = .ok (.iload 4, 2) := by decide +kernel
theorem d_M_rename_125 : decode b_M_rename 125 = .ok (.aload_n 0, 1) := by decide +kernel
theorem d_M_rename_126 : decode b_M_rename 126 = .ok (.getfield 51, 3) := by decide +kernel
theorem d_M_rename_129 : decode b_M_rename 129 = .ok (.if_icmp .ge 34, 3) := by decide +kernel
theorem d_M_rename_132 : decode b_M_rename 132 = .ok (.aload_n 0, 1) := by decide +kernel
theorem d_M_rename_133 : decode b_M_rename 133 = .ok (.getfield 26, 3) := by decide +kernel
theorem d_M_rename_136 : decode b_M_rename 136 = .ok (.iload 4, 2) := by decide +kernel
theorem d_M_rename_138 : decode b_M_rename 138 = .ok (.iaload, 1) := by decide +kernel
theorem d_M_rename_139 : decode b_M_rename 139 = .ok (.iload_n 1, 1) := by decide +kernel
theorem d_M_rename_140 : decode b_M_rename 140 = .ok (.if_icmp .eq 6, 3) := by decide +kernel
theorem d_M_rename_143 : decode b_M_rename 143 = .ok (.goto 14, 3) := by decide +kernel
theorem d_M_rename_146 : decode b_M_rename 146 = .ok (.aload_n 0, 1) := by decide +kernel
theorem d_M_rename_147 : decode b_M_rename 147 = .ok (.getfield 26, 3) := by decide +kernel
theorem d_M_rename_150 : decode b_M_rename 150 = .ok (.iload 4, 2) := by decide +kernel
theorem d_M_rename_152 : decode b_M_rename 152 = .ok (.iload_n 2, 1) := by decide +kernel
theorem d_M_rename_153 : decode b_M_rename 153 = .ok (.iastore, 1) := by decide +kernel
theorem d_M_rename_154 : decode b_M_rename 154 = .ok (.iinc 3 1, 3) := by decide +kernel
theorem d_M_rename_157 : decode b_M_rename 157 = .ok (.iinc 4 1, 3) := by decide +kernel
theorem d_M_rename_160 : decode b_M_rename 160 = .ok (.goto (-37), 3) := by decide +kernel
theorem d_M_rename_163 : decode b_M_rename 163 = .ok (.aload_n 0, 1) := by decide +kernel
theorem d_M_rename_164 : decode b_M_rename 164 = .ok (.getfield 26, 3) := by decide +kernel
theorem d_M_rename_167 : decode b_M_rename 167 = .ok (.iload_n 1, 1) := by decide +kernel
theorem d_M_rename_168 : decode b_M_rename 168 = .ok (.iaload, 1) := by decide +kernel
theorem d_M_rename_169 : decode b_M_rename 169 = .ok (.ifCond .lt 25, 3) := by decide +kernel
theorem d_M_rename_172 : decode b_M_rename 172 = .ok (.aload_n 0, 1) := by decide +kernel
theorem d_M_rename_173 : decode b_M_rename 173 = .ok (.getfield 26, 3) := by decide +kernel
theorem d_M_rename_176 : decode b_M_rename 176 = .ok (.iload_n 2, 1) := by decide +kernel
theorem d_M_rename_177 : decode b_M_rename 177 = .ok (.aload_n 0, 1) := by decide +kernel
theorem d_M_rename_178 : decode b_M_rename 178 = .ok (.getfield 26, 3) := by decide +kernel
theorem d_M_rename_181 : decode b_M_rename 181 = .ok (.iload_n 1, 1) := by decide +kernel
theorem d_M_rename_182 : decode b_M_rename 182 = .ok (.iaload, 1) := by decide +kernel
theorem d_M_rename_183 : decode b_M_rename 183 = .ok (.iastore, 1) := by decide +kernel
theorem d_M_rename_184 : decode b_M_rename 184 = .ok (.aload_n 0, 1) := by decide +kernel
theorem d_M_rename_185 : decode b_M_rename 185 = .ok (.getfield 26, 3) := by decide +kernel
theorem d_M_rename_188 : decode b_M_rename 188 = .ok (.iload_n 1, 1) := by decide +kernel
theorem d_M_rename_189 : decode b_M_rename 189 = .ok (.iconst (-1), 1) := by decide +kernel
theorem d_M_rename_190 : decode b_M_rename 190 = .ok (.iastore, 1) := by decide +kernel
theorem d_M_rename_191 : decode b_M_rename 191 = .ok (.iinc 3 1, 3) := by decide +kernel
theorem d_M_rename_194 : decode b_M_rename 194 = .ok (.iload_n 3, 1) := by decide +kernel
theorem d_M_rename_195 : decode b_M_rename 195 = .ok (.aload_n 0, 1) := by decide +kernel
theorem d_M_rename_196 : decode b_M_rename 196 = .ok (.getfield 23, 3) := by decide +kernel
theorem d_M_rename_199 : decode b_M_rename 199 = .ok (.iload_n 1, 1) := by decide +kernel
theorem d_M_rename_200 : decode b_M_rename 200 = .ok (.iaload, 1) := by decide +kernel
theorem d_M_rename_201 : decode b_M_rename 201 = .ok (.ifCond .le 7, 3) := by decide +kernel
theorem d_M_rename_204 : decode b_M_rename 204 = .ok (.iconst 1, 1) := by decide +kernel
theorem d_M_rename_205 : decode b_M_rename 205 = .ok (.goto 4, 3) := by decide +kernel
theorem d_M_rename_208 : decode b_M_rename 208 = .ok (.iconst 0, 1) := by decide +kernel
theorem d_M_rename_209 : decode b_M_rename 209 = .ok (.iadd, 1) := by decide +kernel
theorem d_M_rename_210 : decode b_M_rename 210 = .ok (.istore_n 3, 1) := by decide +kernel
theorem d_M_rename_211 : decode b_M_rename 211 = .ok (.aload_n 0, 1) := by decide +kernel
theorem d_M_rename_212 : decode b_M_rename 212 = .ok (.getfield 23, 3) := by decide +kernel
theorem d_M_rename_215 : decode b_M_rename 215 = .ok (.iload_n 2, 1) := by decide +kernel
theorem d_M_rename_216 : decode b_M_rename 216 = .ok (.dup2, 1) := by decide +kernel
theorem d_M_rename_217 : decode b_M_rename 217 = .ok (.iaload, 1) := by decide +kernel
theorem d_M_rename_218 : decode b_M_rename 218 = .ok (.aload_n 0, 1) := by decide +kernel
theorem d_M_rename_219 : decode b_M_rename 219 = .ok (.getfield 23, 3) := by decide +kernel
theorem d_M_rename_222 : decode b_M_rename 222 = .ok (.iload_n 1, 1) := by decide +kernel
theorem d_M_rename_223 : decode b_M_rename 223 = .ok (.iaload, 1) := by decide +kernel
theorem d_M_rename_224 : decode b_M_rename 224 = .ok (.iadd, 1) := by decide +kernel
theorem d_M_rename_225 : decode b_M_rename 225 = .ok (.iastore, 1) := by decide +kernel
theorem d_M_rename_226 : decode b_M_rename 226 = .ok (.aload_n 0, 1) := by decide +kernel
theorem d_M_rename_227 : decode b_M_rename 227 = .ok (.getfield 23, 3) := by decide +kernel
theorem d_M_rename_230 : decode b_M_rename 230 = .ok (.iload_n 1, 1) := by decide +kernel
theorem d_M_rename_231 : decode b_M_rename 231 = .ok (.iconst 0, 1) := by decide +kernel
theorem d_M_rename_232 : decode b_M_rename 232 = .ok (.iastore, 1) := by decide +kernel
theorem d_M_rename_233 : decode b_M_rename 233 = .ok (.aload_n 0, 1) := by decide +kernel
theorem d_M_rename_234 : decode b_M_rename 234 = .ok (.getfield 32, 3) := by decide +kernel
theorem d_M_rename_237 : decode b_M_rename 237 = .ok (.iconst 2, 1) := by decide +kernel
theorem d_M_rename_238 : decode b_M_rename 238 = .ok (.aload_n 0, 1) := by decide +kernel
theorem d_M_rename_239 : decode b_M_rename 239 = .ok (.getfield 143, 3) := by decide +kernel
theorem d_M_rename_242 : decode b_M_rename 242 = .ok (.imul, 1) := by decide +kernel
theorem d_M_rename_243 : decode b_M_rename 243 = .ok (.iload_n 1, 1) := by decide +kernel
theorem d_M_rename_244 : decode b_M_rename 244 = .ok (.iastore, 1) := by decide +kernel
theorem d_M_rename_245 : decode b_M_rename 245 = .ok (.aload_n 0, 1) := by decide +kernel
theorem d_M_rename_246 : decode b_M_rename 246 = .ok (.getfield 32, 3) := by decide +kernel
theorem d_M_rename_249 : decode b_M_rename 249 = .ok (.iconst 2, 1) := by decide +kernel
theorem d_M_rename_250 : decode b_M_rename 250 = .ok (.aload_n 0, 1) := by decide +kernel
theorem d_M_rename_251 : decode b_M_rename 251 = .ok (.getfield 143, 3) := by decide +kernel
theorem d_M_rename_254 : decode b_M_rename 254 = .ok (.imul, 1) := by decide +kernel
theorem d_M_rename_255 : decode b_M_rename 255 = .ok (.iconst 1, 1) := by decide +kernel
theorem d_M_rename_256 : decode b_M_rename 256 = .ok (.iadd, 1) := by decide +kernel
theorem d_M_rename_257 : decode b_M_rename 257 = .ok (.iload_n 2, 1) := by decide +kernel
theorem d_M_rename_258 : decode b_M_rename 258 = .ok (.iastore, 1) := by decide +kernel
theorem d_M_rename_259 : decode b_M_rename 259 = .ok (.aload_n 0, 1) := by decide +kernel
theorem d_M_rename_260 : decode b_M_rename 260 = .ok (.dup, 1) := by decide +kernel
theorem d_M_rename_261 : decode b_M_rename 261 = .ok (.getfield 143, 3) := by decide +kernel
theorem d_M_rename_264 : decode b_M_rename 264 = .ok (.iconst 1, 1) := by decide +kernel
theorem d_M_rename_265 : decode b_M_rename 265 = .ok (.iadd, 1) := by decide +kernel
theorem d_M_rename_266 : decode b_M_rename 266 = .ok (.putfield 143, 3) := by decide +kernel
theorem d_M_rename_269 : decode b_M_rename 269 = .ok (.iload_n 3, 1) := by decide +kernel
theorem d_M_rename_270 : decode b_M_rename 270 = .ok (.ireturn, 1) := by decide +kernel
theorem d_M_now_0 : decode b_M_now 0 = .ok (.aload_n 0, 1) := by decide +kernel
theorem d_M_now_1 : decode b_M_now 1 = .ok (.aload_n 0, 1) := by decide +kernel
theorem d_M_now_2 : decode b_M_now 2 = .ok (.iload_n 1, 1) := by decide +kernel
theorem d_M_now_3 : decode b_M_now 3 = .ok (.invokevirtual 89, 3) := by decide +kernel
theorem d_M_now_6 : decode b_M_now 6 = .ok (.ifCond .eq 7, 3) := by decide +kernel
theorem d_M_now_9 : decode b_M_now 9 = .ok (.iconst 1, 1) := by decide +kernel
theorem d_M_now_10 : decode b_M_now 10 = .ok (.goto 4, 3) := by decide +kernel
theorem d_M_now_13 : decode b_M_now 13 = .ok (.iconst 0, 1) := by decide +kernel
theorem d_M_now_14 : decode b_M_now 14 = .ok (.invokevirtual 57, 3) := by decide +kernel
theorem d_M_now_17 : decode b_M_now 17 = .ok (.ifCond .eq 5, 3) := by decide +kernel
theorem d_M_now_20 : decode b_M_now 20 = .ok (.iconst 0, 1) := by decide +kernel
theorem d_M_now_21 : decode b_M_now 21 = .ok (.ireturn, 1) := by decide +kernel
theorem d_M_now_22 : decode b_M_now 22 = .ok (.iload_n 1, 1) := by decide +kernel
theorem d_M_now_23 : decode b_M_now 23 = .ok (.istore_n 2, 1) := by decide +kernel
theorem d_M_now_24 : decode b_M_now 24 = .ok (.iconst 0, 1) := by decide +kernel
theorem d_M_now_25 : decode b_M_now 25 = .ok (.istore_n 3, 1) := by decide +kernel
theorem d_M_now_26 : decode b_M_now 26 = .ok (.iload_n 3, 1) := by decide +kernel
theorem d_M_now_27 : decode b_M_now 27 = .ok (.aload_n 0, 1) := by decide +kernel
theorem d_M_now_28 : decode b_M_now 28 = .ok (.getfield 143, 3) := by decide +kernel
theorem d_M_now_31 : decode b_M_now 31 = .ok (.if_icmp .ge 36, 3) := by decide +kernel
theorem d_M_now_34 : decode b_M_now 34 = .ok (.aload_n 0, 1) := by decide +kernel
theorem d_M_now_35 : decode b_M_now 35 = .ok (.getfield 32, 3) := by decide +kernel
theorem d_M_now_38 : decode b_M_now 38 = .ok (.iconst 2, 1) := by decide +kernel
theorem d_M_now_39 : decode b_M_now 39 = .ok (.iload_n 3, 1) := by decide +kernel
theorem d_M_now_40 : decode b_M_now 40 = .ok (.imul, 1) := by decide +kernel
theorem d_M_now_41 : decode b_M_now 41 = .ok (.iaload, 1) := by decide +kernel
theorem d_M_now_42 : decode b_M_now 42 = .ok (.iload_n 2, 1) := by decide +kernel
theorem d_M_now_43 : decode b_M_now 43 = .ok (.if_icmp .ne 16, 3) := by decide +kernel
theorem d_M_now_46 : decode b_M_now 46 = .ok (.aload_n 0, 1) := by decide +kernel
theorem d_M_now_47 : decode b_M_now 47 = .ok (.getfield 32, 3) := by decide +kernel
theorem d_M_now_50 : decode b_M_now 50 = .ok (.iconst 2, 1) := by decide +kernel
theorem d_M_now_51 : decode b_M_now 51 = .ok (.iload_n 3, 1) := by decide +kernel
theorem d_M_now_52 : decode b_M_now 52 = .ok (.imul, 1) := by decide +kernel
theorem d_M_now_53 : decode b_M_now 53 = .ok (.iconst 1, 1) := by decide +kernel
theorem d_M_now_54 : decode b_M_now 54 = .ok (.iadd, 1) := by decide +kernel
theorem d_M_now_55 : decode b_M_now 55 = .ok (.iaload, 1) := by decide +kernel
theorem d_M_now_56 : decode b_M_now 56 = .ok (.goto 4, 3) := by decide +kernel
theorem d_M_now_59 : decode b_M_now 59 = .ok (.iload_n 2, 1) := by decide +kernel
theorem d_M_now_60 : decode b_M_now 60 = .ok (.istore_n 2, 1) := by decide +kernel
theorem d_M_now_61 : decode b_M_now 61 = .ok (.iinc 3 1, 3) := by decide +kernel
theorem d_M_now_64 : decode b_M_now 64 = .ok (.goto (-38), 3) := by decide +kernel
theorem d_M_now_67 : decode b_M_now 67 = .ok (.iload_n 2, 1) := by decide +kernel
theorem d_M_now_68 : decode b_M_now 68 = .ok (.ireturn, 1) := by decide +kernel
theorem d_M_was_0 : decode b_M_was 0 = .ok (.aload_n 0, 1) := by decide +kernel
theorem d_M_was_1 : decode b_M_was 1 = .ok (.aload_n 0, 1) := by decide +kernel
theorem d_M_was_2 : decode b_M_was 2 = .ok (.iload_n 1, 1) := by decide +kernel
theorem d_M_was_3 : decode b_M_was 3 = .ok (.invokevirtual 89, 3) := by decide +kernel
theorem d_M_was_6 : decode b_M_was 6 = .ok (.ifCond .eq 7, 3) := by decide +kernel
theorem d_M_was_9 : decode b_M_was 9 = .ok (.iconst 1, 1) := by decide +kernel
theorem d_M_was_10 : decode b_M_was 10 = .ok (.goto 4, 3) := by decide +kernel
theorem d_M_was_13 : decode b_M_was 13 = .ok (.iconst 0, 1) := by decide +kernel
theorem d_M_was_14 : decode b_M_was 14 = .ok (.invokevirtual 57, 3) := by decide +kernel
theorem d_M_was_17 : decode b_M_was 17 = .ok (.ifCond .eq 5, 3) := by decide +kernel
theorem d_M_was_20 : decode b_M_was 20 = .ok (.iconst 0, 1) := by decide +kernel
theorem d_M_was_21 : decode b_M_was 21 = .ok (.ireturn, 1) := by decide +kernel
theorem d_M_was_22 : decode b_M_was 22 = .ok (.iload_n 1, 1) := by decide +kernel
theorem d_M_was_23 : decode b_M_was 23 = .ok (.istore_n 2, 1) := by decide +kernel
theorem d_M_was_24 : decode b_M_was 24 = .ok (.aload_n 0, 1) := by decide +kernel
theorem d_M_was_25 : decode b_M_was 25 = .ok (.getfield 143, 3) := by decide +kernel
theorem d_M_was_28 : decode b_M_was 28 = .ok (.iconst 1, 1) := by decide +kernel
theorem d_M_was_29 : decode b_M_was 29 = .ok (.isub, 1) := by decide +kernel
theorem d_M_was_30 : decode b_M_was 30 = .ok (.istore_n 3, 1) := by decide +kernel
theorem d_M_was_31 : decode b_M_was 31 = .ok (.iload_n 3, 1) := by decide +kernel
theorem d_M_was_32 : decode b_M_was 32 = .ok (.ifCond .lt 36, 3) := by decide +kernel
theorem d_M_was_35 : decode b_M_was 35 = .ok (.aload_n 0, 1) := by decide +kernel
theorem d_M_was_36 : decode b_M_was 36 = .ok (.getfield 32, 3) := by decide +kernel
theorem d_M_was_39 : decode b_M_was 39 = .ok (.iconst 2, 1) := by decide +kernel
theorem d_M_was_40 : decode b_M_was 40 = .ok (.iload_n 3, 1) := by decide +kernel
theorem d_M_was_41 : decode b_M_was 41 = .ok (.imul, 1) := by decide +kernel
theorem d_M_was_42 : decode b_M_was 42 = .ok (.iconst 1, 1) := by decide +kernel
theorem d_M_was_43 : decode b_M_was 43 = .ok (.iadd, 1) := by decide +kernel
theorem d_M_was_44 : decode b_M_was 44 = .ok (.iaload, 1) := by decide +kernel
theorem d_M_was_45 : decode b_M_was 45 = .ok (.iload_n 2, 1) := by decide +kernel
theorem d_M_was_46 : decode b_M_was 46 = .ok (.if_icmp .ne 14, 3) := by decide +kernel
theorem d_M_was_49 : decode b_M_was 49 = .ok (.aload_n 0, 1) := by decide +kernel
theorem d_M_was_50 : decode b_M_was 50 = .ok (.getfield 32, 3) := by decide +kernel
theorem d_M_was_53 : decode b_M_was 53 = .ok (.iconst 2, 1) := by decide +kernel
theorem d_M_was_54 : decode b_M_was 54 = .ok (.iload_n 3, 1) := by decide +kernel
theorem d_M_was_55 : decode b_M_was 55 = .ok (.imul, 1) := by decide +kernel
theorem d_M_was_56 : decode b_M_was 56 = .ok (.iaload, 1) := by decide +kernel
theorem d_M_was_57 : decode b_M_was 57 = .ok (.goto 4, 3) := by decide +kernel
theorem d_M_was_60 : decode b_M_was 60 = .ok (.iload_n 2, 1) := by decide +kernel
theorem d_M_was_61 : decode b_M_was 61 = .ok (.istore_n 2, 1) := by decide +kernel
theorem d_M_was_62 : decode b_M_was 62 = .ok (.iinc 3 (-1), 3) := by decide +kernel
theorem d_M_was_65 : decode b_M_was 65 = .ok (.goto (-34), 3) := by decide +kernel
theorem d_M_was_68 : decode b_M_was 68 = .ok (.iload_n 2, 1) := by decide +kernel
theorem d_M_was_69 : decode b_M_was 69 = .ok (.ireturn, 1) := by decide +kernel
theorem d_M_clash_0 : decode b_M_clash 0 = .ok (.aload_n 0, 1) := by decide +kernel
theorem d_M_clash_1 : decode b_M_clash 1 = .ok (.iload_n 1, 1) := by decide +kernel
theorem d_M_clash_2 : decode b_M_clash 2 = .ok (.ifCond .lt 8, 3) := by decide +kernel
theorem d_M_clash_5 : decode b_M_clash 5 = .ok (.iload_n 1, 1) := by decide +kernel
theorem d_M_clash_6 : decode b_M_clash 6 = .ok (.iconst 2, 1) := by decide +kernel
theorem d_M_clash_7 : decode b_M_clash 7 = .ok (.if_icmp .le 7, 3) := by decide +kernel
theorem d_M_clash_10 : decode b_M_clash 10 = .ok (.iconst 1, 1) := by decide +kernel
theorem d_M_clash_11 : decode b_M_clash 11 = .ok (.goto 4, 3) := by decide +kernel
theorem d_M_clash_14 : decode b_M_clash 14 = .ok (.iconst 0, 1) := by decide +kernel
theorem d_M_clash_15 : decode b_M_clash 15 = .ok (.invokevirtual 57, 3) := by decide +kernel
theorem d_M_clash_18 : decode b_M_clash 18 = .ok (.ifCond .eq 7, 3) := by decide +kernel
theorem d_M_clash_21 : decode b_M_clash 21 = .ok (.iconst 0, 1) := by decide +kernel
theorem d_M_clash_22 : decode b_M_clash 22 = .ok (.goto 9, 3) := by decide +kernel
theorem d_M_clash_25 : decode b_M_clash 25 = .ok (.aload_n 0, 1) := by decide +kernel
theorem d_M_clash_26 : decode b_M_clash 26 = .ok (.getfield 38, 3) := by decide +kernel
theorem d_M_clash_29 : decode b_M_clash 29 = .ok (.iload_n 1, 1) := by decide +kernel
theorem d_M_clash_30 : decode b_M_clash 30 = .ok (.iaload, 1) := by decide +kernel
theorem d_M_clash_31 : decode b_M_clash 31 = .ok (.ireturn, 1) := by decide +kernel
theorem d_M_count_0 : decode b_M_count 0 = .ok (.aload_n 0, 1) := by decide +kernel
theorem d_M_count_1 : decode b_M_count 1 = .ok (.iload_n 1, 1) := by decide +kernel
theorem d_M_count_2 : decode b_M_count 2 = .ok (.ifCond .lt 9, 3) := by decide +kernel
theorem d_M_count_5 : decode b_M_count 5 = .ok (.iload_n 1, 1) := by decide +kernel
theorem d_M_count_6 : decode b_M_count 6 = .ok (.bipush 6, 2) := by decide +kernel
theorem d_M_count_8 : decode b_M_count 8 = .ok (.if_icmp .le 7, 3) := by decide +kernel
theorem d_M_count_11 : decode b_M_count 11 = .ok (.iconst 1, 1) := by decide +kernel
theorem d_M_count_12 : decode b_M_count 12 = .ok (.goto 4, 3) := by decide +kernel
theorem d_M_count_15 : decode b_M_count 15 = .ok (.iconst 0, 1) := by decide +kernel
theorem d_M_count_16 : decode b_M_count 16 = .ok (.invokevirtual 57, 3) := by decide +kernel
theorem d_M_count_19 : decode b_M_count 19 = .ok (.ifCond .eq 5, 3) := by decide +kernel
theorem d_M_count_22 : decode b_M_count 22 = .ok (.iconst 0, 1) := by decide +kernel
theorem d_M_count_23 : decode b_M_count 23 = .ok (.ireturn, 1) := by decide +kernel
theorem d_M_count_24 : decode b_M_count 24 = .ok (.iconst 0, 1) := by decide +kernel
theorem d_M_count_25 : decode b_M_count 25 = .ok (.istore_n 2, 1) := by decide +kernel
theorem d_M_count_26 : decode b_M_count 26 = .ok (.iconst 0, 1) := by decide +kernel
theorem d_M_count_27 : decode b_M_count 27 = .ok (.istore_n 3, 1) := by decide +kernel
theorem d_M_count_28 : decode b_M_count 28 = .ok (.iload_n 3, 1) := by decide +kernel
theorem d_M_count_29 : decode b_M_count 29 = .ok (.aload_n 0, 1) := by decide +kernel
theorem d_M_count_30 : decode b_M_count 30 = .ok (.getfield 51, 3) := by decide +kernel
theorem d_M_count_33 : decode b_M_count 33 = .ok (.if_icmp .ge 58, 3) := by decide +kernel
theorem d_M_count_36 : decode b_M_count 36 = .ok (.iload_n 2, 1) := by decide +kernel
theorem d_M_count_37 : decode b_M_count 37 = .ok (.iload_n 1, 1) := by decide +kernel
theorem d_M_count_38 : decode b_M_count 38 = .ok (.iconst 1, 1) := by decide +kernel
theorem d_M_count_39 : decode b_M_count 39 = .ok (.if_icmp .ne 11, 3) := by decide +kernel
theorem d_M_count_42 : decode b_M_count 42 = .ok (.aload_n 0, 1) := by decide +kernel
theorem d_M_count_43 : decode b_M_count 43 = .ok (.iload_n 3, 1) := by decide +kernel
theorem d_M_count_44 : decode b_M_count 44 = .ok (.invokevirtual 103, 3) := by decide +kernel
theorem d_M_count_47 : decode b_M_count 47 = .ok (.ifCond .ne 31, 3) := by decide +kernel
theorem d_M_count_50 : decode b_M_count 50 = .ok (.iload_n 1, 1) := by decide +kernel
theorem d_M_count_51 : decode b_M_count 51 = .ok (.iconst 2, 1) := by decide +kernel
theorem d_M_count_52 : decode b_M_count 52 = .ok (.if_icmp .ne 12, 3) := by decide +kernel
theorem d_M_count_55 : decode b_M_count 55 = .ok (.aload_n 0, 1) := by decide +kernel
theorem d_M_count_56 : decode b_M_count 56 = .ok (.getfield 20, 3) := by decide +kernel
theorem d_M_count_59 : decode b_M_count 59 = .ok (.iload_n 3, 1) := by decide +kernel
theorem d_M_count_60 : decode b_M_count 60 = .ok (.iaload, 1) := by decide +kernel
theorem d_M_count_61 : decode b_M_count 61 = .ok (.ifCond .ge 17, 3) := by decide +kernel
theorem d_M_count_64 : decode b_M_count 64 = .ok (.iload_n 1, 1) := by decide +kernel
theorem d_M_count_65 : decode b_M_count 65 = .ok (.bipush 6, 2) := by decide +kernel
theorem d_M_count_67 : decode b_M_count 67 = .ok (.if_icmp .ne 15, 3) := by decide +kernel
theorem d_M_count_70 : decode b_M_count 70 = .ok (.aload_n 0, 1) := by decide +kernel
theorem d_M_count_71 : decode b_M_count 71 = .ok (.iload_n 3, 1) := by decide +kernel
theorem d_M_count_72 : decode b_M_count 72 = .ok (.invokevirtual 131, 3) := by decide +kernel
theorem d_M_count_75 : decode b_M_count 75 = .ok (.ifCond .eq 7, 3) := by decide +kernel
theorem d_M_count_78 : decode b_M_count 78 = .ok (.iconst 1, 1) := by decide +kernel
theorem d_M_count_79 : decode b_M_count 79 = .ok (.goto 4, 3) := by decide +kernel
theorem d_M_count_82 : decode b_M_count 82 = .ok (.iconst 0, 1) := by decide +kernel
theorem d_M_count_83 : decode b_M_count 83 = .ok (.iadd, 1) := by decide +kernel
theorem d_M_count_84 : decode b_M_count 84 = .ok (.istore_n 2, 1) := by decide +kernel
theorem d_M_count_85 : decode b_M_count 85 = .ok (.iinc 3 1, 3) := by decide +kernel
theorem d_M_count_88 : decode b_M_count 88 = .ok (.goto (-60), 3) := by decide +kernel
theorem d_M_count_91 : decode b_M_count 91 = .ok (.iload_n 1, 1) := by decide +kernel
theorem d_M_count_92 : decode b_M_count 92 = .ok (.tableswitch 60 0 5 #[40, 60, 60, 45, 50, 55], 40) := by decide +kernel
theorem d_M_count_132 : decode b_M_count 132 = .ok (.aload_n 0, 1) := by decide +kernel
theorem d_M_count_133 : decode b_M_count 133 = .ok (.getfield 51, 3) := by decide +kernel
theorem d_M_count_136 : decode b_M_count 136 = .ok (.ireturn, 1) := by decide +kernel
theorem d_M_count_137 : decode b_M_count 137 = .ok (.aload_n 0, 1) := by decide +kernel
theorem d_M_count_138 : decode b_M_count 138 = .ok (.getfield 125, 3) := by decide +kernel
theorem d_M_count_141 : decode b_M_count 141 = .ok (.ireturn, 1) := by decide +kernel
theorem d_M_count_142 : decode b_M_count 142 = .ok (.aload_n 0, 1) := by decide +kernel
theorem d_M_count_143 : decode b_M_count 143 = .ok (.getfield 143, 3) := by decide +kernel
theorem d_M_count_146 : decode b_M_count 146 = .ok (.ireturn, 1) := by decide +kernel
theorem d_M_count_147 : decode b_M_count 147 = .ok (.aload_n 0, 1) := by decide +kernel
theorem d_M_count_148 : decode b_M_count 148 = .ok (.getfield 54, 3) := by decide +kernel
theorem d_M_count_151 : decode b_M_count 151 = .ok (.ireturn, 1) := by decide +kernel
theorem d_M_count_152 : decode b_M_count 152 = .ok (.iload_n 2, 1) := by decide +kernel
theorem d_M_count_153 : decode b_M_count 153 = .ok (.ireturn, 1) := by decide +kernel
end
section
theorem d_N_init_0 : decode b_N_init 0 = .ok (.aload_n 0, 1) := by decide +kernel
theorem d_N_init_1 : decode b_N_init 1 = .ok (.invokespecial 3, 3) := by decide +kernel
theorem d_N_init_4 : decode b_N_init 4 = .ok (.aload_n 0, 1) := by decide +kernel
theorem d_N_init_5 : decode b_N_init 5 = .ok (.bipush 60, 2) := by decide +kernel
theorem d_N_init_7 : decode b_N_init 7 = .ok (.anewarray 9, 3) := by decide +kernel
theorem d_N_init_10 : decode b_N_init 10 = .ok (.putfield 11, 3) := by decide +kernel
theorem d_N_init_13 : decode b_N_init 13 = .ok (.iconst 0, 1) := by decide +kernel
theorem d_N_init_14 : decode b_N_init 14 = .ok (.istore_n 1, 1) := by decide +kernel
theorem d_N_init_15 : decode b_N_init 15 = .ok (.iload_n 1, 1) := by decide +kernel
theorem d_N_init_16 : decode b_N_init 16 = .ok (.aload_n 0, 1) := by decide +kernel
theorem d_N_init_17 : decode b_N_init 17 = .ok (.getfield 11, 3) := by decide +kernel
theorem d_N_init_20 : decode b_N_init 20 = .ok (.arraylength, 1) := by decide +kernel
theorem d_N_init_21 : decode b_N_init 21 = .ok (.if_icmp .ge 24, 3) := by decide +kernel
theorem d_N_init_24 : decode b_N_init 24 = .ok (.aload_n 0, 1) := by decide +kernel
theorem d_N_init_25 : decode b_N_init 25 = .ok (.getfield 11, 3) := by decide +kernel
theorem d_N_init_28 : decode b_N_init 28 = .ok (.iload_n 1, 1) := by decide +kernel
theorem d_N_init_29 : decode b_N_init 29 = .ok (.new 9, 3) := by decide +kernel
theorem d_N_init_32 : decode b_N_init 32 = .ok (.dup, 1) := by decide +kernel
theorem d_N_init_33 : decode b_N_init 33 = .ok (.bipush 24, 2) := by decide +kernel
theorem d_N_init_35 : decode b_N_init 35 = .ok (.invokespecial 17, 3) := by decide +kernel
theorem d_N_init_38 : decode b_N_init 38 = .ok (.aastore, 1) := by decide +kernel
theorem d_N_init_39 : decode b_N_init 39 = .ok (.iinc 1 1, 3) := by decide +kernel
theorem d_N_init_42 : decode b_N_init 42 = .ok (.goto (-27), 3) := by decide +kernel
theorem d_N_init_45 : decode b_N_init 45 = .ok (.aload_n 0, 1) := by decide +kernel
theorem d_N_init_46 : decode b_N_init 46 = .ok (.iconst 0, 1) := by decide +kernel
theorem d_N_init_47 : decode b_N_init 47 = .ok (.putfield 20, 3) := by decide +kernel
theorem d_N_init_50 : decode b_N_init 50 = .ok (.return_, 1) := by decide +kernel
theorem d_N_size_0 : decode b_N_size 0 = .ok (.aload_n 0, 1) := by decide +kernel
theorem d_N_size_1 : decode b_N_size 1 = .ok (.getfield 20, 3) := by decide +kernel
theorem d_N_size_4 : decode b_N_size 4 = .ok (.ireturn, 1) := by decide +kernel
theorem d_N_has_0 : decode b_N_has 0 = .ok (.iload_n 1, 1) := by decide +kernel
theorem d_N_has_1 : decode b_N_has 1 = .ok (.ifCond .lt 15, 3) := by decide +kernel
theorem d_N_has_4 : decode b_N_has 4 = .ok (.iload_n 1, 1) := by decide +kernel
theorem d_N_has_5 : decode b_N_has 5 = .ok (.aload_n 0, 1) := by decide +kernel
theorem d_N_has_6 : decode b_N_has 6 = .ok (.getfield 20, 3) := by decide +kernel
theorem d_N_has_9 : decode b_N_has 9 = .ok (.if_icmp .ge 7, 3) := by decide +kernel
theorem d_N_has_12 : decode b_N_has 12 = .ok (.iconst 1, 1) := by decide +kernel
theorem d_N_has_13 : decode b_N_has 13 = .ok (.goto 4, 3) := by decide +kernel
theorem d_N_has_16 : decode b_N_has 16 = .ok (.iconst 0, 1) := by decide +kernel
theorem d_N_has_17 : decode b_N_has 17 = .ok (.ireturn, 1) := by decide +kernel
theorem d_N_isFull_0 : decode b_N_isFull 0 = .ok (.aload_n 0, 1) := by decide +kernel
theorem d_N_isFull_1 : decode b_N_isFull 1 = .ok (.getfield 20, 3) := by decide +kernel
theorem d_N_isFull_4 : decode b_N_isFull 4 = .ok (.aload_n 0, 1) := by decide +kernel
theorem d_N_isFull_5 : decode b_N_isFull 5 = .ok (.getfield 11, 3) := by decide +kernel
theorem d_N_isFull_8 : decode b_N_isFull 8 = .ok (.arraylength, 1) := by decide +kernel
theorem d_N_isFull_9 : decode b_N_isFull 9 = .ok (.if_icmp .lt 7, 3) := by decide +kernel
theorem d_N_isFull_12 : decode b_N_isFull 12 = .ok (.iconst 1, 1) := by decide +kernel
theorem d_N_isFull_13 : decode b_N_isFull 13 = .ok (.goto 4, 3) := by decide +kernel
theorem d_N_isFull_16 : decode b_N_isFull 16 = .ok (.iconst 0, 1) := by decide +kernel
theorem d_N_isFull_17 : decode b_N_isFull 17 = .ok (.ireturn, 1) := by decide +kernel
theorem d_N_text_0 : decode b_N_text 0 = .ok (.aload_n 0, 1) := by decide +kernel
theorem d_N_text_1 : decode b_N_text 1 = .ok (.getfield 11, 3) := by decide +kernel
theorem d_N_text_4 : decode b_N_text 4 = .ok (.iload_n 1, 1) := by decide +kernel
theorem d_N_text_5 : decode b_N_text 5 = .ok (.aaload, 1) := by decide +kernel
theorem d_N_text_6 : decode b_N_text 6 = .ok (.areturn, 1) := by decide +kernel
theorem d_N_find_0 : decode b_N_find 0 = .ok (.iconst 0, 1) := by decide +kernel
theorem d_N_find_1 : decode b_N_find 1 = .ok (.istore_n 2, 1) := by decide +kernel
theorem d_N_find_2 : decode b_N_find 2 = .ok (.iload_n 2, 1) := by decide +kernel
theorem d_N_find_3 : decode b_N_find 3 = .ok (.aload_n 0, 1) := by decide +kernel
theorem d_N_find_4 : decode b_N_find 4 = .ok (.getfield 20, 3) := by decide +kernel
theorem d_N_find_7 : decode b_N_find 7 = .ok (.if_icmp .ge 24, 3) := by decide +kernel
theorem d_N_find_10 : decode b_N_find 10 = .ok (.aload_n 0, 1) := by decide +kernel
theorem d_N_find_11 : decode b_N_find 11 = .ok (.getfield 11, 3) := by decide +kernel
theorem d_N_find_14 : decode b_N_find 14 = .ok (.iload_n 2, 1) := by decide +kernel
theorem d_N_find_15 : decode b_N_find 15 = .ok (.aaload, 1) := by decide +kernel
theorem d_N_find_16 : decode b_N_find 16 = .ok (.aload_n 1, 1) := by decide +kernel
theorem d_N_find_17 : decode b_N_find 17 = .ok (.invokevirtual 24, 3) := by decide +kernel
theorem d_N_find_20 : decode b_N_find 20 = .ok (.ifCond .ne 5, 3) := by decide +kernel
theorem d_N_find_23 : decode b_N_find 23 = .ok (.iload_n 2, 1) := by decide +kernel
theorem d_N_find_24 : decode b_N_find 24 = .ok (.ireturn, 1) := by decide +kernel
theorem d_N_find_25 : decode b_N_find 25 = .ok (.iinc 2 1, 3) := by decide +kernel
theorem d_N_find_28 : decode b_N_find 28 = .ok (.goto (-26), 3) := by decide +kernel
theorem d_N_find_31 : decode b_N_find 31 = .ok (.iconst (-1), 1) := by decide +kernel
theorem d_N_find_32 : decode b_N_find 32 = .ok (.ireturn, 1) := by decide +kernel
theorem d_N_add_0 : decode b_N_add 0 = .ok (.aload_n 0, 1) := by decide +kernel
theorem d_N_add_1 : decode b_N_add 1 = .ok (.getfield 20, 3) := by decide +kernel
theorem d_N_add_4 : decode b_N_add 4 = .ok (.istore_n 2, 1) := by decide +kernel
theorem d_N_add_5 : decode b_N_add 5 = .ok (.aload_n 0, 1) := by decide +kernel
theorem d_N_add_6 : decode b_N_add 6 = .ok (.getfield 11, 3) := by decide +kernel
theorem d_N_add_9 : decode b_N_add 9 = .ok (.iload_n 2, 1) := by decide +kernel
theorem d_N_add_10 : decode b_N_add 10 = .ok (.aaload, 1) := by decide +kernel
theorem d_N_add_11 : decode b_N_add 11 = .ok (.aload_n 1, 1) := by decide +kernel
theorem d_N_add_12 : decode b_N_add 12 = .ok (.invokevirtual 28, 3) := by decide +kernel
theorem d_N_add_15 : decode b_N_add 15 = .ok (.aload_n 0, 1) := by decide +kernel
theorem d_N_add_16 : decode b_N_add 16 = .ok (.dup, 1) := by decide +kernel
theorem d_N_add_17 : decode b_N_add 17 = .ok (.getfield 20, 3) := by decide +kernel
theorem d_N_add_20 : decode b_N_add 20 = .ok (.iconst 1, 1) := by decide +kernel
theorem d_N_add_21 : decode b_N_add 21 = .ok (.iadd, 1) := by decide +kernel
theorem d_N_add_22 : decode b_N_add 22 = .ok (.putfield 20, 3) := by decide +kernel
theorem d_N_add_25 : decode b_N_add 25 = .ok (.iload_n 2, 1) := by decide +kernel
theorem d_N_add_26 : decode b_N_add 26 = .ok (.ireturn, 1) := by decide +kernel
theorem d_R_init_0 : decode b_R_init 0 = .ok (.aload_n 0, 1) := by decide +kernel
theorem d_R_init_1 : decode b_R_init 1 = .ok (.invokespecial 3, 3) := by decide +kernel
theorem d_R_init_4 : decode b_R_init 4 = .ok (.aload_n 0, 1) := by decide +kernel
theorem d_R_init_5 : decode b_R_init 5 = .ok (.bipush 20, 2) := by decide +kernel
theorem d_R_init_7 : decode b_R_init 7 = .ok (.newarray .int, 2) := by decide +kernel
theorem d_R_init_9 : decode b_R_init 9 = .ok (.putfield 9, 3) := by decide +kernel
theorem d_R_init_12 : decode b_R_init 12 = .ok (.aload_n 0, 1) := by decide +kernel
theorem d_R_init_13 : decode b_R_init 13 = .ok (.bipush 20, 2) := by decide +kernel
theorem d_R_init_15 : decode b_R_init 15 = .ok (.newarray .int, 2) := by decide +kernel
theorem d_R_init_17 : decode b_R_init 17 = .ok (.putfield 15, 3) := by decide +kernel
theorem d_R_init_20 : decode b_R_init 20 = .ok (.aload_n 0, 1) := by decide +kernel
theorem d_R_init_21 : decode b_R_init 21 = .ok (.iconst 0, 1) := by decide +kernel
theorem d_R_init_22 : decode b_R_init 22 = .ok (.putfield 18, 3) := by decide +kernel
theorem d_R_init_25 : decode b_R_init 25 = .ok (.return_, 1) := by decide +kernel
theorem d_R_size_0 : decode b_R_size 0 = .ok (.aload_n 0, 1) := by decide +kernel
theorem d_R_size_1 : decode b_R_size 1 = .ok (.getfield 18, 3) := by decide +kernel
theorem d_R_size_4 : decode b_R_size 4 = .ok (.ireturn, 1) := by decide +kernel
theorem d_R_isFull_0 : decode b_R_isFull 0 = .ok (.aload_n 0, 1) := by decide +kernel
theorem d_R_isFull_1 : decode b_R_isFull 1 = .ok (.getfield 18, 3) := by decide +kernel
theorem d_R_isFull_4 : decode b_R_isFull 4 = .ok (.bipush 20, 2) := by decide +kernel
theorem d_R_isFull_6 : decode b_R_isFull 6 = .ok (.if_icmp .lt 7, 3) := by decide +kernel
theorem d_R_isFull_9 : decode b_R_isFull 9 = .ok (.iconst 1, 1) := by decide +kernel
theorem d_R_isFull_10 : decode b_R_isFull 10 = .ok (.goto 4, 3) := by decide +kernel
theorem d_R_isFull_13 : decode b_R_isFull 13 = .ok (.iconst 0, 1) := by decide +kernel
theorem d_R_isFull_14 : decode b_R_isFull 14 = .ok (.ireturn, 1) := by decide +kernel
theorem d_R_add_0 : decode b_R_add 0 = .ok (.aload_n 0, 1) := by decide +kernel
theorem d_R_add_1 : decode b_R_add 1 = .ok (.getfield 9, 3) := by decide +kernel
theorem d_R_add_4 : decode b_R_add 4 = .ok (.aload_n 0, 1) := by decide +kernel
theorem d_R_add_5 : decode b_R_add 5 = .ok (.getfield 18, 3) := by decide +kernel
theorem d_R_add_8 : decode b_R_add 8 = .ok (.iload_n 1, 1) := by decide +kernel
theorem d_R_add_9 : decode b_R_add 9 = .ok (.iastore, 1) := by decide +kernel
theorem d_R_add_10 : decode b_R_add 10 = .ok (.aload_n 0, 1) := by decide +kernel
theorem d_R_add_11 : decode b_R_add 11 = .ok (.getfield 15, 3) := by decide +kernel
theorem d_R_add_14 : decode b_R_add 14 = .ok (.aload_n 0, 1) := by decide +kernel
theorem d_R_add_15 : decode b_R_add 15 = .ok (.getfield 18, 3) := by decide +kernel
theorem d_R_add_18 : decode b_R_add 18 = .ok (.iload_n 2, 1) := by decide +kernel
theorem d_R_add_19 : decode b_R_add 19 = .ok (.iastore, 1) := by decide +kernel
theorem d_R_add_20 : decode b_R_add 20 = .ok (.aload_n 0, 1) := by decide +kernel
theorem d_R_add_21 : decode b_R_add 21 = .ok (.dup, 1) := by decide +kernel
theorem d_R_add_22 : decode b_R_add 22 = .ok (.getfield 18, 3) := by decide +kernel
theorem d_R_add_25 : decode b_R_add 25 = .ok (.iconst 1, 1) := by decide +kernel
theorem d_R_add_26 : decode b_R_add 26 = .ok (.iadd, 1) := by decide +kernel
theorem d_R_add_27 : decode b_R_add 27 = .ok (.putfield 18, 3) := by decide +kernel
theorem d_R_add_30 : decode b_R_add 30 = .ok (.return_, 1) := by decide +kernel
theorem d_R_forward_0 : decode b_R_forward 0 = .ok (.iload_n 1, 1) := by decide +kernel
theorem d_R_forward_1 : decode b_R_forward 1 = .ok (.istore_n 2, 1) := by decide +kernel
theorem d_R_forward_2 : decode b_R_forward 2 = .ok (.iconst 0, 1) := by decide +kernel
theorem d_R_forward_3 : decode b_R_forward 3 = .ok (.istore_n 3, 1) := by decide +kernel
theorem d_R_forward_4 : decode b_R_forward 4 = .ok (.iload_n 3, 1) := by decide +kernel
theorem d_R_forward_5 : decode b_R_forward 5 = .ok (.aload_n 0, 1) := by decide +kernel
theorem d_R_forward_6 : decode b_R_forward 6 = .ok (.getfield 18, 3) := by decide +kernel
theorem d_R_forward_9 : decode b_R_forward 9 = .ok (.if_icmp .ge 26, 3) := by decide +kernel
theorem d_R_forward_12 : decode b_R_forward 12 = .ok (.aload_n 0, 1) := by decide +kernel
theorem d_R_forward_13 : decode b_R_forward 13 = .ok (.getfield 9, 3) := by decide +kernel
theorem d_R_forward_16 : decode b_R_forward 16 = .ok (.iload_n 3, 1) := by decide +kernel
theorem d_R_forward_17 : decode b_R_forward 17 = .ok (.iaload, 1) := by decide +kernel
theorem d_R_forward_18 : decode b_R_forward 18 = .ok (.iload_n 2, 1) := by decide +kernel
theorem d_R_forward_19 : decode b_R_forward 19 = .ok (.if_icmp .ne 10, 3) := by decide +kernel
theorem d_R_forward_22 : decode b_R_forward 22 = .ok (.aload_n 0, 1) := by decide +kernel
theorem d_R_forward_23 : decode b_R_forward 23 = .ok (.getfield 15, 3) := by decide +kernel
theorem d_R_forward_26 : decode b_R_forward 26 = .ok (.iload_n 3, 1) := by decide +kernel
theorem d_R_forward_27 : decode b_R_forward 27 = .ok (.iaload, 1) := by decide +kernel
theorem d_R_forward_28 : decode b_R_forward 28 = .ok (.istore_n 2, 1) := by decide +kernel
theorem d_R_forward_29 : decode b_R_forward 29 = .ok (.iinc 3 1, 3) := by decide +kernel
theorem d_R_forward_32 : decode b_R_forward 32 = .ok (.goto (-28), 3) := by decide +kernel
theorem d_R_forward_35 : decode b_R_forward 35 = .ok (.iload_n 2, 1) := by decide +kernel
theorem d_R_forward_36 : decode b_R_forward 36 = .ok (.ireturn, 1) := by decide +kernel
theorem d_R_back_0 : decode b_R_back 0 = .ok (.iload_n 1, 1) := by decide +kernel
theorem d_R_back_1 : decode b_R_back 1 = .ok (.istore_n 2, 1) := by decide +kernel
theorem d_R_back_2 : decode b_R_back 2 = .ok (.aload_n 0, 1) := by decide +kernel
theorem d_R_back_3 : decode b_R_back 3 = .ok (.getfield 18, 3) := by decide +kernel
theorem d_R_back_6 : decode b_R_back 6 = .ok (.iconst 1, 1) := by decide +kernel
theorem d_R_back_7 : decode b_R_back 7 = .ok (.isub, 1) := by decide +kernel
theorem d_R_back_8 : decode b_R_back 8 = .ok (.istore_n 3, 1) := by decide +kernel
theorem d_R_back_9 : decode b_R_back 9 = .ok (.iload_n 3, 1) := by decide +kernel
theorem d_R_back_10 : decode b_R_back 10 = .ok (.ifCond .lt 26, 3) := by decide +kernel
theorem d_R_back_13 : decode b_R_back 13 = .ok (.aload_n 0, 1) := by decide +kernel
theorem d_R_back_14 : decode b_R_back 14 = .ok (.getfield 15, 3) := by decide +kernel
theorem d_R_back_17 : decode b_R_back 17 = .ok (.iload_n 3, 1) := by decide +kernel
theorem d_R_back_18 : decode b_R_back 18 = .ok (.iaload, 1) := by decide +kernel
theorem d_R_back_19 : decode b_R_back 19 = .ok (.iload_n 2, 1) := by decide +kernel
theorem d_R_back_20 : decode b_R_back 20 = .ok (.if_icmp .ne 10, 3) := by decide +kernel
theorem d_R_back_23 : decode b_R_back 23 = .ok (.aload_n 0, 1) := by decide +kernel
theorem d_R_back_24 : decode b_R_back 24 = .ok (.getfield 9, 3) := by decide +kernel
theorem d_R_back_27 : decode b_R_back 27 = .ok (.iload_n 3, 1) := by decide +kernel
theorem d_R_back_28 : decode b_R_back 28 = .ok (.iaload, 1) := by decide +kernel
theorem d_R_back_29 : decode b_R_back 29 = .ok (.istore_n 2, 1) := by decide +kernel
theorem d_R_back_30 : decode b_R_back 30 = .ok (.iinc 3 (-1), 3) := by decide +kernel
theorem d_R_back_33 : decode b_R_back 33 = .ok (.goto (-24), 3) := by decide +kernel
theorem d_R_back_36 : decode b_R_back 36 = .ok (.iload_n 2, 1) := by decide +kernel
theorem d_R_back_37 : decode b_R_back 37 = .ok (.ireturn, 1) := by decide +kernel
theorem d_W_init_0 : decode b_W_init 0 = .ok (.aload_n 0, 1) := by decide +kernel
theorem d_W_init_1 : decode b_W_init 1 = .ok (.invokespecial 3, 3) := by decide +kernel
theorem d_W_init_4 : decode b_W_init 4 = .ok (.aload_n 0, 1) := by decide +kernel
theorem d_W_init_5 : decode b_W_init 5 = .ok (.bipush 120, 2) := by decide +kernel
theorem d_W_init_7 : decode b_W_init 7 = .ok (.newarray .int, 2) := by decide +kernel
theorem d_W_init_9 : decode b_W_init 9 = .ok (.putfield 11, 3) := by decide +kernel
theorem d_W_init_12 : decode b_W_init 12 = .ok (.aload_n 0, 1) := by decide +kernel
theorem d_W_init_13 : decode b_W_init 13 = .ok (.iconst 0, 1) := by decide +kernel
theorem d_W_init_14 : decode b_W_init 14 = .ok (.putfield 15, 3) := by decide +kernel
theorem d_W_init_17 : decode b_W_init 17 = .ok (.return_, 1) := by decide +kernel
theorem d_W_size_0 : decode b_W_size 0 = .ok (.aload_n 0, 1) := by decide +kernel
theorem d_W_size_1 : decode b_W_size 1 = .ok (.getfield 15, 3) := by decide +kernel
theorem d_W_size_4 : decode b_W_size 4 = .ok (.ireturn, 1) := by decide +kernel
theorem d_W_has_0 : decode b_W_has 0 = .ok (.iload_n 1, 1) := by decide +kernel
theorem d_W_has_1 : decode b_W_has 1 = .ok (.ifCond .lt 15, 3) := by decide +kernel
theorem d_W_has_4 : decode b_W_has 4 = .ok (.iload_n 1, 1) := by decide +kernel
theorem d_W_has_5 : decode b_W_has 5 = .ok (.aload_n 0, 1) := by decide +kernel
theorem d_W_has_6 : decode b_W_has 6 = .ok (.getfield 15, 3) := by decide +kernel
theorem d_W_has_9 : decode b_W_has 9 = .ok (.if_icmp .ge 7, 3) := by decide +kernel
theorem d_W_has_12 : decode b_W_has 12 = .ok (.iconst 1, 1) := by decide +kernel
theorem d_W_has_13 : decode b_W_has 13 = .ok (.goto 4, 3) := by decide +kernel
theorem d_W_has_16 : decode b_W_has 16 = .ok (.iconst 0, 1) := by decide +kernel
theorem d_W_has_17 : decode b_W_has 17 = .ok (.ireturn, 1) := by decide +kernel
theorem d_W_isFull_0 : decode b_W_isFull 0 = .ok (.aload_n 0, 1) := by decide +kernel
theorem d_W_isFull_1 : decode b_W_isFull 1 = .ok (.getfield 15, 3) := by decide +kernel
theorem d_W_isFull_4 : decode b_W_isFull 4 = .ok (.bipush 40, 2) := by decide +kernel
theorem d_W_isFull_6 : decode b_W_isFull 6 = .ok (.if_icmp .lt 7, 3) := by decide +kernel
theorem d_W_isFull_9 : decode b_W_isFull 9 = .ok (.iconst 1, 1) := by decide +kernel
theorem d_W_isFull_10 : decode b_W_isFull 10 = .ok (.goto 4, 3) := by decide +kernel
theorem d_W_isFull_13 : decode b_W_isFull 13 = .ok (.iconst 0, 1) := by decide +kernel
theorem d_W_isFull_14 : decode b_W_isFull 14 = .ok (.ireturn, 1) := by decide +kernel
theorem d_W_cell_0 : decode b_W_cell 0 = .ok (.aload_n 0, 1) := by decide +kernel
theorem d_W_cell_1 : decode b_W_cell 1 = .ok (.getfield 11, 3) := by decide +kernel
theorem d_W_cell_4 : decode b_W_cell 4 = .ok (.iload_n 1, 1) := by decide +kernel
theorem d_W_cell_5 : decode b_W_cell 5 = .ok (.iconst 3, 1) := by decide +kernel
theorem d_W_cell_6 : decode b_W_cell 6 = .ok (.imul, 1) := by decide +kernel
theorem d_W_cell_7 : decode b_W_cell 7 = .ok (.iload_n 2, 1) := by decide +kernel
theorem d_W_cell_8 : decode b_W_cell 8 = .ok (.iadd, 1) := by decide +kernel
theorem d_W_cell_9 : decode b_W_cell 9 = .ok (.iaload, 1) := by decide +kernel
theorem d_W_cell_10 : decode b_W_cell 10 = .ok (.ireturn, 1) := by decide +kernel
theorem d_W_rowOfTerm_0 : decode b_W_rowOfTerm 0 = .ok (.iconst 0, 1) := by decide +kernel
theorem d_W_rowOfTerm_1 : decode b_W_rowOfTerm 1 = .ok (.istore_n 2, 1) := by decide +kernel
theorem d_W_rowOfTerm_2 : decode b_W_rowOfTerm 2 = .ok (.iload_n 2, 1) := by decide +kernel
theorem d_W_rowOfTerm_3 : decode b_W_rowOfTerm 3 = .ok (.aload_n 0, 1) := by decide +kernel
theorem d_W_rowOfTerm_4 : decode b_W_rowOfTerm 4 = .ok (.getfield 15, 3) := by decide +kernel
theorem d_W_rowOfTerm_7 : decode b_W_rowOfTerm 7 = .ok (.if_icmp .ge 21, 3) := by decide +kernel
theorem d_W_rowOfTerm_10 : decode b_W_rowOfTerm 10 = .ok (.aload_n 0, 1) := by decide +kernel
theorem d_W_rowOfTerm_11 : decode b_W_rowOfTerm 11 = .ok (.iload_n 2, 1) := by decide +kernel
theorem d_W_rowOfTerm_12 : decode b_W_rowOfTerm 12 = .ok (.iconst 0, 1) := by decide +kernel
theorem d_W_rowOfTerm_13 : decode b_W_rowOfTerm 13 = .ok (.invokevirtual 19, 3) := by decide +kernel
theorem d_W_rowOfTerm_16 : decode b_W_rowOfTerm 16 = .ok (.iload_n 1, 1) := by decide +kernel
theorem d_W_rowOfTerm_17 : decode b_W_rowOfTerm 17 = .ok (.if_icmp .ne 5, 3) := by decide +kernel
theorem d_W_rowOfTerm_20 : decode b_W_rowOfTerm 20 = .ok (.iload_n 2, 1) := by decide +kernel
theorem d_W_rowOfTerm_21 : decode b_W_rowOfTerm 21 = .ok (.ireturn, 1) := by decide +kernel
theorem d_W_rowOfTerm_22 : decode b_W_rowOfTerm 22 = .ok (.iinc 2 1, 3) := by decide +kernel
theorem d_W_rowOfTerm_25 : decode b_W_rowOfTerm 25 = .ok (.goto (-23), 3) := by decide +kernel
theorem d_W_rowOfTerm_28 : decode b_W_rowOfTerm 28 = .ok (.iconst (-1), 1) := by decide +kernel
theorem d_W_rowOfTerm_29 : decode b_W_rowOfTerm 29 = .ok (.ireturn, 1) := by decide +kernel
theorem d_W_add_0 : decode b_W_add 0 = .ok (.aload_n 0, 1) := by decide +kernel
theorem d_W_add_1 : decode b_W_add 1 = .ok (.getfield 15, 3) := by decide +kernel
theorem d_W_add_4 : decode b_W_add 4 = .ok (.istore 4, 2) := by decide +kernel
theorem d_W_add_6 : decode b_W_add 6 = .ok (.aload_n 0, 1) := by decide +kernel
theorem d_W_add_7 : decode b_W_add 7 = .ok (.getfield 11, 3) := by decide +kernel
theorem d_W_add_10 : decode b_W_add 10 = .ok (.iload 4, 2) := by decide +kernel
theorem d_W_add_12 : decode b_W_add 12 = .ok (.iconst 3, 1) := by decide +kernel
theorem d_W_add_13 : decode b_W_add 13 = .ok (.imul, 1) := by decide +kernel
theorem d_W_add_14 : decode b_W_add 14 = .ok (.iconst 0, 1) := by decide +kernel
theorem d_W_add_15 : decode b_W_add 15 = .ok (.iadd, 1) := by decide +kernel
theorem d_W_add_16 : decode b_W_add 16 = .ok (.iload_n 1, 1) := by decide +kernel
theorem d_W_add_17 : decode b_W_add 17 = .ok (.iastore, 1) := by decide +kernel
theorem d_W_add_18 : decode b_W_add 18 = .ok (.aload_n 0, 1) := by decide +kernel
theorem d_W_add_19 : decode b_W_add 19 = .ok (.getfield 11, 3) := by decide +kernel
theorem d_W_add_22 : decode b_W_add 22 = .ok (.iload 4, 2) := by decide +kernel
theorem d_W_add_24 : decode b_W_add 24 = .ok (.iconst 3, 1) := by decide +kernel
theorem d_W_add_25 : decode b_W_add 25 = .ok (.imul, 1) := by decide +kernel
theorem d_W_add_26 : decode b_W_add 26 = .ok (.iconst 1, 1) := by decide +kernel
theorem d_W_add_27 : decode b_W_add 27 = .ok (.iadd, 1) := by decide +kernel
theorem d_W_add_28 : decode b_W_add 28 = .ok (.iload_n 2, 1) := by decide +kernel
theorem d_W_add_29 : decode b_W_add 29 = .ok (.iastore, 1) := by decide +kernel
theorem d_W_add_30 : decode b_W_add 30 = .ok (.aload_n 0, 1) := by decide +kernel
theorem d_W_add_31 : decode b_W_add 31 = .ok (.getfield 11, 3) := by decide +kernel
theorem d_W_add_34 : decode b_W_add 34 = .ok (.iload 4, 2) := by decide +kernel
theorem d_W_add_36 : decode b_W_add 36 = .ok (.iconst 3, 1) := by decide +kernel
theorem d_W_add_37 : decode b_W_add 37 = .ok (.imul, 1) := by decide +kernel
theorem d_W_add_38 : decode b_W_add 38 = .ok (.iconst 2, 1) := by decide +kernel
theorem d_W_add_39 : decode b_W_add 39 = .ok (.iadd, 1) := by decide +kernel
theorem d_W_add_40 : decode b_W_add 40 = .ok (.iload_n 3, 1) := by decide +kernel
theorem d_W_add_41 : decode b_W_add 41 = .ok (.iastore, 1) := by decide +kernel
theorem d_W_add_42 : decode b_W_add 42 = .ok (.aload_n 0, 1) := by decide +kernel
theorem d_W_add_43 : decode b_W_add 43 = .ok (.dup, 1) := by decide +kernel
theorem d_W_add_44 : decode b_W_add 44 = .ok (.getfield 15, 3) := by decide +kernel
theorem d_W_add_47 : decode b_W_add 47 = .ok (.iconst 1, 1) := by decide +kernel
theorem d_W_add_48 : decode b_W_add 48 = .ok (.iadd, 1) := by decide +kernel
theorem d_W_add_49 : decode b_W_add 49 = .ok (.putfield 15, 3) := by decide +kernel
theorem d_W_add_52 : decode b_W_add 52 = .ok (.iload 4, 2) := by decide +kernel
theorem d_W_add_54 : decode b_W_add 54 = .ok (.ireturn, 1) := by decide +kernel
theorem d_W_replace_0 : decode b_W_replace 0 = .ok (.iconst 0, 1) := by decide +kernel
theorem d_W_replace_1 : decode b_W_replace 1 = .ok (.istore_n 3, 1) := by decide +kernel
theorem d_W_replace_2 : decode b_W_replace 2 = .ok (.iconst 0, 1) := by decide +kernel
theorem d_W_replace_3 : decode b_W_replace 3 = .ok (.istore 4, 2) := by decide +kernel
theorem d_W_replace_5 : decode b_W_replace 5 = .ok (.iload 4, 2) := by decide +kernel
theorem d_W_replace_7 : decode b_W_replace 7 = .ok (.aload_n 0, 1) := by decide +kernel
theorem d_W_replace_8 : decode b_W_replace 8 = .ok (.getfield 15, 3) := by decide +kernel
theorem d_W_replace_11 : decode b_W_replace 11 = .ok (.iconst 3, 1) := by decide +kernel
theorem d_W_replace_12 : decode b_W_replace 12 = .ok (.imul, 1) := by decide +kernel
theorem d_W_replace_13 : decode b_W_replace 13 = .ok (.if_icmp .ge 31, 3) := by decide +kernel
theorem d_W_replace_16 : decode b_W_replace 16 = .ok (.aload_n 0, 1) := by decide +kernel
theorem d_W_replace_17 : decode b_W_replace 17 = .ok (.getfield 11, 3) := by decide +kernel
theorem d_W_replace_20 : decode b_W_replace 20 = .ok (.iload 4, 2) := by decide +kernel
theorem d_W_replace_22 : decode b_W_replace 22 = .ok (.iaload, 1) := by decide +kernel
theorem d_W_replace_23 : decode b_W_replace 23 = .ok (.iload_n 1, 1) := by decide +kernel
theorem d_W_replace_24 : decode b_W_replace 24 = .ok (.if_icmp .ne 14, 3) := by decide +kernel
theorem d_W_replace_27 : decode b_W_replace 27 = .ok (.aload_n 0, 1) := by decide +kernel
theorem d_W_replace_28 : decode b_W_replace 28 = .ok (.getfield 11, 3) := by decide +kernel
theorem d_W_replace_31 : decode b_W_replace 31 = .ok (.iload 4, 2) := by decide +kernel
theorem d_W_replace_33 : decode b_W_replace 33 = .ok (.iload_n 2, 1) := by decide +kernel
theorem d_W_replace_34 : decode b_W_replace 34 = .ok (.iastore, 1) := by decide +kernel
theorem d_W_replace_35 : decode b_W_replace 35 = .ok (.iinc 3 1, 3) := by decide +kernel
theorem d_W_replace_38 : decode b_W_replace 38 = .ok (.iinc 4 1, 3) := by decide +kernel
theorem d_W_replace_41 : decode b_W_replace 41 = .ok (.goto (-36), 3) := by decide +kernel
theorem d_W_replace_44 : decode b_W_replace 44 = .ok (.iload_n 3, 1) := by decide +kernel
theorem d_W_replace_45 : decode b_W_replace 45 = .ok (.ireturn, 1) := by decide +kernel
theorem d_H_init_0 : decode b_H_init 0 = .ok (.aload_n 0, 1) := by decide +kernel
theorem d_H_init_1 : decode b_H_init 1 = .ok (.invokespecial 3, 3) := by decide +kernel
theorem d_H_init_4 : decode b_H_init 4 = .ok (.aload_n 0, 1) := by decide +kernel
theorem d_H_init_5 : decode b_H_init 5 = .ok (.aload_n 1, 1) := by decide +kernel
theorem d_H_init_6 : decode b_H_init 6 = .ok (.putfield 9, 3) := by decide +kernel
theorem d_H_init_9 : decode b_H_init 9 = .ok (.aload_n 0, 1) := by decide +kernel
theorem d_H_init_10 : decode b_H_init 10 = .ok (.bipush 60, 2) := by decide +kernel
theorem d_H_init_12 : decode b_H_init 12 = .ok (.newarray .int, 2) := by decide +kernel
theorem d_H_init_14 : decode b_H_init 14 = .ok (.putfield 15, 3) := by decide +kernel
theorem d_H_init_17 : decode b_H_init 17 = .ok (.aload_n 0, 1) := by decide +kernel
theorem d_H_init_18 : decode b_H_init 18 = .ok (.bipush 60, 2) := by decide +kernel
theorem d_H_init_20 : decode b_H_init 20 = .ok (.newarray .int, 2) := by decide +kernel
theorem d_H_init_22 : decode b_H_init 22 = .ok (.putfield 19, 3) := by decide +kernel
theorem d_H_init_25 : decode b_H_init 25 = .ok (.iconst 0, 1) := by decide +kernel
theorem d_H_init_26 : decode b_H_init 26 = .ok (.istore_n 2, 1) := by decide +kernel
theorem d_H_init_27 : decode b_H_init 27 = .ok (.iload_n 2, 1) := by decide +kernel
theorem d_H_init_28 : decode b_H_init 28 = .ok (.bipush 60, 2) := by decide +kernel
theorem d_H_init_30 : decode b_H_init 30 = .ok (.if_icmp .ge 23, 3) := by decide +kernel
theorem d_H_init_33 : decode b_H_init 33 = .ok (.aload_n 0, 1) := by decide +kernel
theorem d_H_init_34 : decode b_H_init 34 = .ok (.getfield 15, 3) := by decide +kernel
theorem d_H_init_37 : decode b_H_init 37 = .ok (.iload_n 2, 1) := by decide +kernel
theorem d_H_init_38 : decode b_H_init 38 = .ok (.iconst (-1), 1) := by decide +kernel
theorem d_H_init_39 : decode b_H_init 39 = .ok (.iastore, 1) := by decide +kernel
theorem d_H_init_40 : decode b_H_init 40 = .ok (.aload_n 0, 1) := by decide +kernel
theorem d_H_init_41 : decode b_H_init 41 = .ok (.getfield 19, 3) := by decide +kernel
theorem d_H_init_44 : decode b_H_init 44 = .ok (.iload_n 2, 1) := by decide +kernel
theorem d_H_init_45 : decode b_H_init 45 = .ok (.iconst (-1), 1) := by decide +kernel
theorem d_H_init_46 : decode b_H_init 46 = .ok (.iastore, 1) := by decide +kernel
theorem d_H_init_47 : decode b_H_init 47 = .ok (.iinc 2 1, 3) := by decide +kernel
theorem d_H_init_50 : decode b_H_init 50 = .ok (.goto (-23), 3) := by decide +kernel
theorem d_H_init_53 : decode b_H_init 53 = .ok (.aload_n 0, 1) := by decide +kernel
theorem d_H_init_54 : decode b_H_init 54 = .ok (.iconst 0, 1) := by decide +kernel
theorem d_H_init_55 : decode b_H_init 55 = .ok (.putfield 22, 3) := by decide +kernel
theorem d_H_init_58 : decode b_H_init 58 = .ok (.aload_n 0, 1) := by decide +kernel
theorem d_H_init_59 : decode b_H_init 59 = .ok (.iconst 0, 1) := by decide +kernel
theorem d_H_init_60 : decode b_H_init 60 = .ok (.putfield 26, 3) := by decide +kernel
theorem d_H_init_63 : decode b_H_init 63 = .ok (.return_, 1) := by decide +kernel
theorem d_H_size_0 : decode b_H_size 0 = .ok (.aload_n 0, 1) := by decide +kernel
theorem d_H_size_1 : decode b_H_size 1 = .ok (.getfield 22, 3) := by decide +kernel
theorem d_H_size_4 : decode b_H_size 4 = .ok (.ireturn, 1) := by decide +kernel
theorem d_H_spaces_0 : decode b_H_spaces 0 = .ok (.aload_n 0, 1) := by decide +kernel
theorem d_H_spaces_1 : decode b_H_spaces 1 = .ok (.getfield 26, 3) := by decide +kernel
theorem d_H_spaces_4 : decode b_H_spaces 4 = .ok (.ireturn, 1) := by decide +kernel
theorem d_H_spaceOfShort_0 : decode b_H_spaceOfShort 0 = .ok (.aload_n 0, 1) := by decide +kernel
theorem d_H_spaceOfShort_1 : decode b_H_spaceOfShort 1 = .ok (.getfield 15, 3) := by decide +kernel
theorem d_H_spaceOfShort_4 : decode b_H_spaceOfShort 4 = .ok (.iload_n 1, 1) := by decide +kernel
theorem d_H_spaceOfShort_5 : decode b_H_spaceOfShort 5 = .ok (.iaload, 1) := by decide +kernel
theorem d_H_spaceOfShort_6 : decode b_H_spaceOfShort 6 = .ok (.ireturn, 1) := by decide +kernel
theorem d_H_bestOfSpace_0 : decode b_H_bestOfSpace 0 = .ok (.iload_n 1, 1) := by decide +kernel
theorem d_H_bestOfSpace_1 : decode b_H_bestOfSpace 1 = .ok (.iconst (-1), 1) := by decide +kernel
theorem d_H_bestOfSpace_2 : decode b_H_bestOfSpace 2 = .ok (.if_icmp .ne 7, 3) := by decide +kernel
theorem d_H_bestOfSpace_5 : decode b_H_bestOfSpace 5 = .ok (.iconst (-1), 1) := by decide +kernel
theorem d_H_bestOfSpace_6 : decode b_H_bestOfSpace 6 = .ok (.goto 9, 3) := by decide +kernel
theorem d_H_bestOfSpace_9 : decode b_H_bestOfSpace 9 = .ok (.aload_n 0, 1) := by decide +kernel
theorem d_H_bestOfSpace_10 : decode b_H_bestOfSpace 10 = .ok (.getfield 19, 3) := by decide +kernel
theorem d_H_bestOfSpace_13 : decode b_H_bestOfSpace 13 = .ok (.iload_n 1, 1) := by decide +kernel
theorem d_H_bestOfSpace_14 : decode b_H_bestOfSpace 14 = .ok (.iaload, 1) := by decide +kernel
theorem d_H_bestOfSpace_15 : decode b_H_bestOfSpace 15 = .ok (.ireturn, 1) := by decide +kernel
theorem d_H_isShort_0 : decode b_H_isShort 0 = .ok (.aload_n 0, 1) := by decide +kernel
theorem d_H_isShort_1 : decode b_H_isShort 1 = .ok (.getfield 9, 3) := by decide +kernel
theorem d_H_isShort_4 : decode b_H_isShort 4 = .ok (.aload_n 1, 1) := by decide +kernel
theorem d_H_isShort_5 : decode b_H_isShort 5 = .ok (.invokevirtual 29, 3) := by decide +kernel
theorem d_H_isShort_8 : decode b_H_isShort 8 = .ok (.istore_n 2, 1) := by decide +kernel
theorem d_H_isShort_9 : decode b_H_isShort 9 = .ok (.iload_n 2, 1) := by decide +kernel
theorem d_H_isShort_10 : decode b_H_isShort 10 = .ok (.iconst (-1), 1) := by decide +kernel
theorem d_H_isShort_11 : decode b_H_isShort 11 = .ok (.if_icmp .eq 17, 3) := by decide +kernel
theorem d_H_isShort_14 : decode b_H_isShort 14 = .ok (.aload_n 0, 1) := by decide +kernel
theorem d_H_isShort_15 : decode b_H_isShort 15 = .ok (.getfield 15, 3) := by decide +kernel
theorem d_H_isShort_18 : decode b_H_isShort 18 = .ok (.iload_n 2, 1) := by decide +kernel
theorem d_H_isShort_19 : decode b_H_isShort 19 = .ok (.iaload, 1) := by decide +kernel
theorem d_H_isShort_20 : decode b_H_isShort 20 = .ok (.iconst (-1), 1) := by decide +kernel
theorem d_H_isShort_21 : decode b_H_isShort 21 = .ok (.if_icmp .eq 7, 3) := by decide +kernel
theorem d_H_isShort_24 : decode b_H_isShort 24 = .ok (.iconst 1, 1) := by decide +kernel
theorem d_H_isShort_25 : decode b_H_isShort 25 = .ok (.goto 4, 3) := by decide +kernel
theorem d_H_isShort_28 : decode b_H_isShort 28 = .ok (.iconst 0, 1) := by decide +kernel
theorem d_H_isShort_29 : decode b_H_isShort 29 = .ok (.ireturn, 1) := by decide +kernel
theorem d_H_add_0 : decode b_H_add 0 = .ok (.aload_n 0, 1) := by decide +kernel
theorem d_H_add_1 : decode b_H_add 1 = .ok (.getfield 15, 3) := by decide +kernel
theorem d_H_add_4 : decode b_H_add 4 = .ok (.iload_n 2, 1) := by decide +kernel
theorem d_H_add_5 : decode b_H_add 5 = .ok (.iload_n 1, 1) := by decide +kernel
theorem d_H_add_6 : decode b_H_add 6 = .ok (.iastore, 1) := by decide +kernel
theorem d_H_add_7 : decode b_H_add 7 = .ok (.aload_n 0, 1) := by decide +kernel
theorem d_H_add_8 : decode b_H_add 8 = .ok (.dup, 1) := by decide +kernel
theorem d_H_add_9 : decode b_H_add 9 = .ok (.getfield 22, 3) := by decide +kernel
theorem d_H_add_12 : decode b_H_add 12 = .ok (.iconst 1, 1) := by decide +kernel
theorem d_H_add_13 : decode b_H_add 13 = .ok (.iadd, 1) := by decide +kernel
theorem d_H_add_14 : decode b_H_add 14 = .ok (.putfield 22, 3) := by decide +kernel
theorem d_H_add_17 : decode b_H_add 17 = .ok (.aload_n 0, 1) := by decide +kernel
theorem d_H_add_18 : decode b_H_add 18 = .ok (.getfield 19, 3) := by decide +kernel
theorem d_H_add_21 : decode b_H_add 21 = .ok (.iload_n 1, 1) := by decide +kernel
theorem d_H_add_22 : decode b_H_add 22 = .ok (.iaload, 1) := by decide +kernel
theorem d_H_add_23 : decode b_H_add 23 = .ok (.istore_n 3, 1) := by decide +kernel
theorem d_H_add_24 : decode b_H_add 24 = .ok (.iload_n 3, 1) := by decide +kernel
theorem d_H_add_25 : decode b_H_add 25 = .ok (.iconst (-1), 1) := by decide +kernel
theorem d_H_add_26 : decode b_H_add 26 = .ok (.if_icmp .ne 13, 3) := by decide +kernel
theorem d_H_add_29 : decode b_H_add 29 = .ok (.aload_n 0, 1) := by decide +kernel
theorem d_H_add_30 : decode b_H_add 30 = .ok (.dup, 1) := by decide +kernel
theorem d_H_add_31 : decode b_H_add 31 = .ok (.getfield 26, 3) := by decide +kernel
theorem d_H_add_34 : decode b_H_add 34 = .ok (.iconst 1, 1) := by decide +kernel
theorem d_H_add_35 : decode b_H_add 35 = .ok (.iadd, 1) := by decide +kernel
theorem d_H_add_36 : decode b_H_add 36 = .ok (.putfield 26, 3) := by decide +kernel
theorem d_H_add_39 : decode b_H_add 39 = .ok (.iload_n 3, 1) := by decide +kernel
theorem d_H_add_40 : decode b_H_add 40 = .ok (.iconst (-1), 1) := by decide +kernel
theorem d_H_add_41 : decode b_H_add 41 = .ok (.if_icmp .eq 25, 3) := by decide +kernel
theorem d_H_add_44 : decode b_H_add 44 = .ok (.aload_n 0, 1) := by decide +kernel
theorem d_H_add_45 : decode b_H_add 45 = .ok (.getfield 9, 3) := by decide +kernel
theorem d_H_add_48 : decode b_H_add 48 = .ok (.iload_n 2, 1) := by decide +kernel
theorem d_H_add_49 : decode b_H_add 49 = .ok (.invokevirtual 35, 3) := by decide +kernel
theorem d_H_add_52 : decode b_H_add 52 = .ok (.aload_n 0, 1) := by decide +kernel
theorem d_H_add_53 : decode b_H_add 53 = .ok (.getfield 9, 3) := by decide +kernel
theorem d_H_add_56 : decode b_H_add 56 = .ok (.iload_n 3, 1) := by decide +kernel
theorem d_H_add_57 : decode b_H_add 57 = .ok (.invokevirtual 35, 3) := by decide +kernel
theorem d_H_add_60 : decode b_H_add 60 = .ok (.invokevirtual 39, 3) := by decide +kernel
theorem d_H_add_63 : decode b_H_add 63 = .ok (.ifCond .eq 10, 3) := by decide +kernel
theorem d_H_add_66 : decode b_H_add 66 = .ok (.aload_n 0, 1) := by decide +kernel
theorem d_H_add_67 : decode b_H_add 67 = .ok (.getfield 19, 3) := by decide +kernel
theorem d_H_add_70 : decode b_H_add 70 = .ok (.iload_n 1, 1) := by decide +kernel
theorem d_H_add_71 : decode b_H_add 71 = .ok (.iload_n 2, 1) := by decide +kernel
theorem d_H_add_72 : decode b_H_add 72 = .ok (.iastore, 1) := by decide +kernel
theorem d_H_add_73 : decode b_H_add 73 = .ok (.return_, 1) := by decide +kernel
theorem d_H_spaceOfName_0 : decode b_H_spaceOfName 0 = .ok (.aload_n 0, 1) := by decide +kernel
theorem d_H_spaceOfName_1 : decode b_H_spaceOfName 1 = .ok (.getfield 9, 3) := by decide +kernel
theorem d_H_spaceOfName_4 : decode b_H_spaceOfName 4 = .ok (.iload_n 1, 1) := by decide +kernel
theorem d_H_spaceOfName_5 : decode b_H_spaceOfName 5 = .ok (.invokevirtual 35, 3) := by decide +kernel
theorem d_H_spaceOfName_8 : decode b_H_spaceOfName 8 = .ok (.astore_n 2, 1) := by decide +kernel
theorem d_H_spaceOfName_9 : decode b_H_spaceOfName 9 = .ok (.iconst (-1), 1) := by decide +kernel
theorem d_H_spaceOfName_10 : decode b_H_spaceOfName 10 = .ok (.istore_n 3, 1) := by decide +kernel
theorem d_H_spaceOfName_11 : decode b_H_spaceOfName 11 = .ok (.iconst 0, 1) := by decide +kernel
theorem d_H_spaceOfName_12 : decode b_H_spaceOfName 12 = .ok (.istore 4, 2) := by decide +kernel
theorem d_H_spaceOfName_14 : decode b_H_spaceOfName 14 = .ok (.iconst 0, 1) := by decide +kernel
theorem d_H_spaceOfName_15 : decode b_H_spaceOfName 15 = .ok (.istore 5, 2) := by decide +kernel
theorem d_H_spaceOfName_17 : decode b_H_spaceOfName 17 = .ok (.iload 5, 2) := by decide +kernel
theorem d_H_spaceOfName_19 : decode b_H_spaceOfName 19 = .ok (.aload_n 0, 1) := by decide +kernel
theorem d_H_spaceOfName_20 : decode b_H_spaceOfName 20 = .ok (.getfield 9, 3) := by decide +kernel
theorem d_H_spaceOfName_23 : decode b_H_spaceOfName 23 = .ok (.invokevirtual 45, 3) := by decide +kernel
theorem d_H_spaceOfName_26 : decode b_H_spaceOfName 26 = .ok (.if_icmp .ge 60, 3) := by decide +kernel
theorem d_H_spaceOfName_29 : decode b_H_spaceOfName 29 = .ok (.aload_n 0, 1) := by decide +kernel
theorem d_H_spaceOfName_30 : decode b_H_spaceOfName 30 = .ok (.getfield 9, 3) := by decide +kernel
theorem d_H_spaceOfName_33 : decode b_H_spaceOfName 33 = .ok (.iload 5, 2) := by decide +kernel
theorem d_H_spaceOfName_35 : decode b_H_spaceOfName 35 = .ok (.invokevirtual 35, 3) := by decide +kernel
theorem d_H_spaceOfName_38 : decode b_H_spaceOfName 38 = .ok (.astore 6, 2) := by decide +kernel
theorem d_H_spaceOfName_40 : decode b_H_spaceOfName 40 = .ok (.aload_n 0, 1) := by decide +kernel
theorem d_H_spaceOfName_41 : decode b_H_spaceOfName 41 = .ok (.getfield 19, 3) := by decide +kernel
theorem d_H_spaceOfName_44 : decode b_H_spaceOfName 44 = .ok (.iload 5, 2) := by decide +kernel
theorem d_H_spaceOfName_46 : decode b_H_spaceOfName 46 = .ok (.iaload, 1) := by decide +kernel
theorem d_H_spaceOfName_47 : decode b_H_spaceOfName 47 = .ok (.iconst (-1), 1) := by decide +kernel
theorem d_H_spaceOfName_48 : decode b_H_spaceOfName 48 = .ok (.if_icmp .eq 32, 3) := by decide +kernel
theorem d_H_spaceOfName_51 : decode b_H_spaceOfName 51 = .ok (.aload 6, 2) := by decide +kernel
theorem d_H_spaceOfName_53 : decode b_H_spaceOfName 53 = .ok (.invokevirtual 48, 3) := by decide +kernel
theorem d_H_spaceOfName_56 : decode b_H_spaceOfName 56 = .ok (.iload 4, 2) := by decide +kernel
theorem d_H_spaceOfName_58 : decode b_H_spaceOfName 58 = .ok (.if_icmp .le 22, 3) := by decide +kernel
theorem d_H_spaceOfName_61 : decode b_H_spaceOfName 61 = .ok (.aload_n 2, 1) := by decide +kernel
theorem d_H_spaceOfName_62 : decode b_H_spaceOfName 62 = .ok (.aload 6, 2) := by decide +kernel
theorem d_H_spaceOfName_64 : decode b_H_spaceOfName 64 = .ok (.invokevirtual 51, 3) := by decide +kernel
theorem d_H_spaceOfName_67 : decode b_H_spaceOfName 67 = .ok (.ifCond .eq 13, 3) := by decide +kernel
theorem d_H_spaceOfName_70 : decode b_H_spaceOfName 70 = .ok (.iload 5, 2) := by decide +kernel
theorem d_H_spaceOfName_72 : decode b_H_spaceOfName 72 = .ok (.istore_n 3, 1) := by decide +kernel
theorem d_H_spaceOfName_73 : decode b_H_spaceOfName 73 = .ok (.aload 6, 2) := by decide +kernel
theorem d_H_spaceOfName_75 : decode b_H_spaceOfName 75 = .ok (.invokevirtual 48, 3) := by decide +kernel
theorem d_H_spaceOfName_78 : decode b_H_spaceOfName 78 = .ok (.istore 4, 2) := by decide +kernel
theorem d_H_spaceOfName_80 : decode b_H_spaceOfName 80 = .ok (.iinc 5 1, 3) := by decide +kernel
theorem d_H_spaceOfName_83 : decode b_H_spaceOfName 83 = .ok (.goto (-66), 3) := by decide +kernel
theorem d_H_spaceOfName_86 : decode b_H_spaceOfName 86 = .ok (.iload_n 3, 1) := by decide +kernel
theorem d_H_spaceOfName_87 : decode b_H_spaceOfName 87 = .ok (.ireturn, 1) := by decide +kernel
theorem d_G_init_0 : decode b_G_init 0 = .ok (.aload_n 0, 1) := by decide +kernel
theorem d_G_init_1 : decode b_G_init 1 = .ok (.invokespecial 3, 3) := by decide +kernel
theorem d_G_init_4 : decode b_G_init 4 = .ok (.aload_n 0, 1) := by decide +kernel
theorem d_G_init_5 : decode b_G_init 5 = .ok (.bipush 60, 2) := by decide +kernel
theorem d_G_init_7 : decode b_G_init 7 = .ok (.newarray .int, 2) := by decide +kernel
theorem d_G_init_9 : decode b_G_init 9 = .ok (.putfield 9, 3) := by decide +kernel
theorem d_G_init_12 : decode b_G_init 12 = .ok (.iconst 0, 1) := by decide +kernel
theorem d_G_init_13 : decode b_G_init 13 = .ok (.istore_n 1, 1) := by decide +kernel
theorem d_G_init_14 : decode b_G_init 14 = .ok (.iload_n 1, 1) := by decide +kernel
theorem d_G_init_15 : decode b_G_init 15 = .ok (.aload_n 0, 1) := by decide +kernel
theorem d_G_init_16 : decode b_G_init 16 = .ok (.getfield 9, 3) := by decide +kernel
theorem d_G_init_19 : decode b_G_init 19 = .ok (.arraylength, 1) := by decide +kernel
theorem d_G_init_20 : decode b_G_init 20 = .ok (.if_icmp .ge 16, 3) := by decide +kernel
theorem d_G_init_23 : decode b_G_init 23 = .ok (.aload_n 0, 1) := by decide +kernel
theorem d_G_init_24 : decode b_G_init 24 = .ok (.getfield 9, 3) := by decide +kernel
theorem d_G_init_27 : decode b_G_init 27 = .ok (.iload_n 1, 1) := by decide +kernel
theorem d_G_init_28 : decode b_G_init 28 = .ok (.iconst (-1), 1) := by decide +kernel
theorem d_G_init_29 : decode b_G_init 29 = .ok (.iastore, 1) := by decide +kernel
theorem d_G_init_30 : decode b_G_init 30 = .ok (.iinc 1 1, 3) := by decide +kernel
theorem d_G_init_33 : decode b_G_init 33 = .ok (.goto (-19), 3) := by decide +kernel
theorem d_G_init_36 : decode b_G_init 36 = .ok (.return_, 1) := by decide +kernel
theorem d_G_next_0 : decode b_G_next 0 = .ok (.aload_n 0, 1) := by decide +kernel
theorem d_G_next_1 : decode b_G_next 1 = .ok (.getfield 9, 3) := by decide +kernel
theorem d_G_next_4 : decode b_G_next 4 = .ok (.iload_n 1, 1) := by decide +kernel
theorem d_G_next_5 : decode b_G_next 5 = .ok (.iaload, 1) := by decide +kernel
theorem d_G_next_6 : decode b_G_next 6 = .ok (.ireturn, 1) := by decide +kernel
theorem d_G_set_0 : decode b_G_set 0 = .ok (.aload_n 0, 1) := by decide +kernel
theorem d_G_set_1 : decode b_G_set 1 = .ok (.getfield 9, 3) := by decide +kernel
theorem d_G_set_4 : decode b_G_set 4 = .ok (.iload_n 1, 1) := by decide +kernel
theorem d_G_set_5 : decode b_G_set 5 = .ok (.iload_n 2, 1) := by decide +kernel
theorem d_G_set_6 : decode b_G_set 6 = .ok (.iastore, 1) := by decide +kernel
theorem d_G_set_7 : decode b_G_set 7 = .ok (.return_, 1) := by decide +kernel
theorem d_G_end_0 : decode b_G_end 0 = .ok (.iload_n 1, 1) := by decide +kernel
theorem d_G_end_1 : decode b_G_end 1 = .ok (.istore_n 2, 1) := by decide +kernel
theorem d_G_end_2 : decode b_G_end 2 = .ok (.iconst 0, 1) := by decide +kernel
theorem d_G_end_3 : decode b_G_end 3 = .ok (.istore_n 3, 1) := by decide +kernel
theorem d_G_end_4 : decode b_G_end 4 = .ok (.iload_n 3, 1) := by decide +kernel
theorem d_G_end_5 : decode b_G_end 5 = .ok (.bipush 60, 2) := by decide +kernel
theorem d_G_end_7 : decode b_G_end 7 = .ok (.if_icmp .ge 26, 3) := by decide +kernel
theorem d_G_end_10 : decode b_G_end 10 = .ok (.aload_n 0, 1) := by decide +kernel
theorem d_G_end_11 : decode b_G_end 11 = .ok (.getfield 9, 3) := by decide +kernel
theorem d_G_end_14 : decode b_G_end 14 = .ok (.iload_n 2, 1) := by decide +kernel
theorem d_G_end_15 : decode b_G_end 15 = .ok (.iaload, 1) := by decide +kernel
theorem d_G_end_16 : decode b_G_end 16 = .ok (.iconst (-1), 1) := by decide +kernel
theorem d_G_end_17 : decode b_G_end 17 = .ok (.if_icmp .eq 16, 3) := by decide +kernel
theorem d_G_end_20 : decode b_G_end 20 = .ok (.aload_n 0, 1) := by decide +kernel
theorem d_G_end_21 : decode b_G_end 21 = .ok (.getfield 9, 3) := by decide +kernel
theorem d_G_end_24 : decode b_G_end 24 = .ok (.iload_n 2, 1) := by decide +kernel
theorem d_G_end_25 : decode b_G_end 25 = .ok (.iaload, 1) := by decide +kernel
theorem d_G_end_26 : decode b_G_end 26 = .ok (.istore_n 2, 1) := by decide +kernel
theorem d_G_end_27 : decode b_G_end 27 = .ok (.iinc 3 1, 3) := by decide +kernel
theorem d_G_end_30 : decode b_G_end 30 = .ok (.goto (-26), 3) := by decide +kernel
theorem d_G_end_33 : decode b_G_end 33 = .ok (.iload_n 2, 1) := by decide +kernel
theorem d_G_end_34 : decode b_G_end 34 = .ok (.ireturn, 1) := by decide +kernel
theorem d_G_leads_0 : decode b_G_leads 0 = .ok (.iload_n 1, 1) := by decide +kernel
theorem d_G_leads_1 : decode b_G_leads 1 = .ok (.istore_n 3, 1) := by decide +kernel
theorem d_G_leads_2 : decode b_G_leads 2 = .ok (.iconst 0, 1) := by decide +kernel
theorem d_G_leads_3 : decode b_G_leads 3 = .ok (.istore 4, 2) := by decide +kernel
theorem d_G_leads_5 : decode b_G_leads 5 = .ok (.iload 4, 2) := by decide +kernel
theorem d_G_leads_7 : decode b_G_leads 7 = .ok (.bipush 60, 2) := by decide +kernel
theorem d_G_leads_9 : decode b_G_leads 9 = .ok (.if_icmp .ge 33, 3) := by decide +kernel
theorem d_G_leads_12 : decode b_G_leads 12 = .ok (.aload_n 0, 1) := by decide +kernel
theorem d_G_leads_13 : decode b_G_leads 13 = .ok (.getfield 9, 3) := by decide +kernel
theorem d_G_leads_16 : decode b_G_leads 16 = .ok (.iload_n 3, 1) := by decide +kernel
theorem d_G_leads_17 : decode b_G_leads 17 = .ok (.iaload, 1) := by decide +kernel
theorem d_G_leads_18 : decode b_G_leads 18 = .ok (.iconst (-1), 1) := by decide +kernel
theorem d_G_leads_19 : decode b_G_leads 19 = .ok (.if_icmp .eq 23, 3) := by decide +kernel
theorem d_G_leads_22 : decode b_G_leads 22 = .ok (.aload_n 0, 1) := by decide +kernel
theorem d_G_leads_23 : decode b_G_leads 23 = .ok (.getfield 9, 3) := by decide +kernel
theorem d_G_leads_26 : decode b_G_leads 26 = .ok (.iload_n 3, 1) := by decide +kernel
theorem d_G_leads_27 : decode b_G_leads 27 = .ok (.iaload, 1) := by decide +kernel
theorem d_G_leads_28 : decode b_G_leads 28 = .ok (.istore_n 3, 1) := by decide +kernel
theorem d_G_leads_29 : decode b_G_leads 29 = .ok (.iload_n 3, 1) := by decide +kernel
theorem d_G_leads_30 : decode b_G_leads 30 = .ok (.iload_n 2, 1) := by decide +kernel
theorem d_G_leads_31 : decode b_G_leads 31 = .ok (.if_icmp .ne 5, 3) := by decide +kernel
theorem d_G_leads_34 : decode b_G_leads 34 = .ok (.iconst 1, 1) := by decide +kernel
theorem d_G_leads_35 : decode b_G_leads 35 = .ok (.ireturn, 1) := by decide +kernel
theorem d_G_leads_36 : decode b_G_leads 36 = .ok (.iinc 4 1, 3) := by decide +kernel
theorem d_G_leads_39 : decode b_G_leads 39 = .ok (.goto (-34), 3) := by decide +kernel
theorem d_G_leads_42 : decode b_G_leads 42 = .ok (.iconst 0, 1) := by decide +kernel
theorem d_G_leads_43 : decode b_G_leads 43 = .ok (.ireturn, 1) := by decide +kernel
theorem d_G_replace_0 : decode b_G_replace 0 = .ok (.iconst 0, 1) := by decide +kernel
theorem d_G_replace_1 : decode b_G_replace 1 = .ok (.istore_n 3, 1) := by decide +kernel
theorem d_G_replace_2 : decode b_G_replace 2 = .ok (.iconst 0, 1) := by decide +kernel
theorem d_G_replace_3 : decode b_G_replace 3 = .ok (.istore 4, 2) := by decide +kernel
theorem d_G_replace_5 : decode b_G_replace 5 = .ok (.iload 4, 2) := by decide +kernel
theorem d_G_replace_7 : decode b_G_replace 7 = .ok (.aload_n 0, 1) := by decide +kernel
theorem d_G_replace_8 : decode b_G_replace 8 = .ok (.getfield 9, 3) := by decide +kernel
theorem d_G_replace_11 : decode b_G_replace 11 = .ok (.arraylength, 1) := by decide +kernel
theorem d_G_replace_12 : decode b_G_replace 12 = .ok (.if_icmp .ge 31, 3) := by decide +kernel
theorem d_G_replace_15 : decode b_G_replace 15 = .ok (.aload_n 0, 1) := by decide +kernel
theorem d_G_replace_16 : decode b_G_replace 16 = .ok (.getfield 9, 3) := by decide +kernel
theorem d_G_replace_19 : decode b_G_replace 19 = .ok (.iload 4, 2) := by decide +kernel
theorem d_G_replace_21 : decode b_G_replace 21 = .ok (.iaload, 1) := by decide +kernel
theorem d_G_replace_22 : decode b_G_replace 22 = .ok (.iload_n 1, 1) := by decide +kernel
theorem d_G_replace_23 : decode b_G_replace 23 = .ok (.if_icmp .ne 14, 3) := by decide +kernel
theorem d_G_replace_26 : decode b_G_replace 26 = .ok (.aload_n 0, 1) := by decide +kernel
theorem d_G_replace_27 : decode b_G_replace 27 = .ok (.getfield 9, 3) := by decide +kernel
theorem d_G_replace_30 : decode b_G_replace 30 = .ok (.iload 4, 2) := by decide +kernel
theorem d_G_replace_32 : decode b_G_replace 32 = .ok (.iload_n 2, 1) := by decide +kernel
theorem d_G_replace_33 : decode b_G_replace 33 = .ok (.iastore, 1) := by decide +kernel
theorem d_G_replace_34 : decode b_G_replace 34 = .ok (.iinc 3 1, 3) := by decide +kernel
theorem d_G_replace_37 : decode b_G_replace 37 = .ok (.iinc 4 1, 3) := by decide +kernel
theorem d_G_replace_40 : decode b_G_replace 40 = .ok (.goto (-35), 3) := by decide +kernel
theorem d_G_replace_43 : decode b_G_replace 43 = .ok (.aload_n 0, 1) := by decide +kernel
theorem d_G_replace_44 : decode b_G_replace 44 = .ok (.getfield 9, 3) := by decide +kernel
theorem d_G_replace_47 : decode b_G_replace 47 = .ok (.iload_n 1, 1) := by decide +kernel
theorem d_G_replace_48 : decode b_G_replace 48 = .ok (.iaload, 1) := by decide +kernel
theorem d_G_replace_49 : decode b_G_replace 49 = .ok (.iconst (-1), 1) := by decide +kernel
theorem d_G_replace_50 : decode b_G_replace 50 = .ok (.if_icmp .eq 25, 3) := by decide +kernel
theorem d_G_replace_53 : decode b_G_replace 53 = .ok (.aload_n 0, 1) := by decide +kernel
theorem d_G_replace_54 : decode b_G_replace 54 = .ok (.getfield 9, 3) := by decide +kernel
theorem d_G_replace_57 : decode b_G_replace 57 = .ok (.iload_n 2, 1) := by decide +kernel
theorem d_G_replace_58 : decode b_G_replace 58 = .ok (.aload_n 0, 1) := by decide +kernel
theorem d_G_replace_59 : decode b_G_replace 59 = .ok (.getfield 9, 3) := by decide +kernel
theorem d_G_replace_62 : decode b_G_replace 62 = .ok (.iload_n 1, 1) := by decide +kernel
theorem d_G_replace_63 : decode b_G_replace 63 = .ok (.iaload, 1) := by decide +kernel
theorem d_G_replace_64 : decode b_G_replace 64 = .ok (.iastore, 1) := by decide +kernel
theorem d_G_replace_65 : decode b_G_replace 65 = .ok (.aload_n 0, 1) := by decide +kernel
theorem d_G_replace_66 : decode b_G_replace 66 = .ok (.getfield 9, 3) := by decide +kernel
theorem d_G_replace_69 : decode b_G_replace 69 = .ok (.iload_n 1, 1) := by decide +kernel
theorem d_G_replace_70 : decode b_G_replace 70 = .ok (.iconst (-1), 1) := by decide +kernel
theorem d_G_replace_71 : decode b_G_replace 71 = .ok (.iastore, 1) := by decide +kernel
theorem d_G_replace_72 : decode b_G_replace 72 = .ok (.iinc 3 1, 3) := by decide +kernel
theorem d_G_replace_75 : decode b_G_replace 75 = .ok (.iload_n 3, 1) := by decide +kernel
theorem d_G_replace_76 : decode b_G_replace 76 = .ok (.ireturn, 1) := by decide +kernel
theorem d_E_init_0 : decode b_E_init 0 = .ok (.aload_n 0, 1) := by decide +kernel
theorem d_E_init_1 : decode b_E_init 1 = .ok (.invokespecial 3, 3) := by decide +kernel
theorem d_E_init_4 : decode b_E_init 4 = .ok (.aload_n 0, 1) := by decide +kernel
theorem d_E_init_5 : decode b_E_init 5 = .ok (.bipush 25, 2) := by decide +kernel
theorem d_E_init_7 : decode b_E_init 7 = .ok (.newarray .int, 2) := by decide +kernel
theorem d_E_init_9 : decode b_E_init 9 = .ok (.putfield 9, 3) := by decide +kernel
theorem d_E_init_12 : decode b_E_init 12 = .ok (.return_, 1) := by decide +kernel
theorem d_E_between_0 : decode b_E_between 0 = .ok (.aload_n 2, 1) := by decide +kernel
theorem d_E_between_1 : decode b_E_between 1 = .ok (.invokevirtual 15, 3) := by decide +kernel
theorem d_E_between_4 : decode b_E_between 4 = .ok (.bipush 24, 2) := by decide +kernel
theorem d_E_between_6 : decode b_E_between 6 = .ok (.invokestatic 21, 3) := by decide +kernel
theorem d_E_between_9 : decode b_E_between 9 = .ok (.istore_n 3, 1) := by decide +kernel
theorem d_E_between_10 : decode b_E_between 10 = .ok (.iconst 0, 1) := by decide +kernel
theorem d_E_between_11 : decode b_E_between 11 = .ok (.istore 4, 2) := by decide +kernel
theorem d_E_between_13 : decode b_E_between 13 = .ok (.iload 4, 2) := by decide +kernel
theorem d_E_between_15 : decode b_E_between 15 = .ok (.iload_n 3, 1) := by decide +kernel
theorem d_E_between_16 : decode b_E_between 16 = .ok (.if_icmp .gt 18, 3) := by decide +kernel
theorem d_E_between_19 : decode b_E_between 19 = .ok (.aload_n 0, 1) := by decide +kernel
theorem d_E_between_20 : decode b_E_between 20 = .ok (.getfield 9, 3) := by decide +kernel
theorem d_E_between_23 : decode b_E_between 23 = .ok (.iload 4, 2) := by decide +kernel
theorem d_E_between_25 : decode b_E_between 25 = .ok (.iload 4, 2) := by decide +kernel
theorem d_E_between_27 : decode b_E_between 27 = .ok (.iastore, 1) := by decide +kernel
theorem d_E_between_28 : decode b_E_between 28 = .ok (.iinc 4 1, 3) := by decide +kernel
theorem d_E_between_31 : decode b_E_between 31 = .ok (.goto (-18), 3) := by decide +kernel
theorem d_E_between_34 : decode b_E_between 34 = .ok (.iconst 1, 1) := by decide +kernel
theorem d_E_between_35 : decode b_E_between 35 = .ok (.istore 4, 2) := by decide +kernel
theorem d_E_between_37 : decode b_E_between 37 = .ok (.iload 4, 2) := by decide +kernel
theorem d_E_between_39 : decode b_E_between 39 = .ok (.aload_n 1, 1) := by decide +kernel
theorem d_E_between_40 : decode b_E_between 40 = .ok (.invokevirtual 15, 3) := by decide +kernel
theorem d_E_between_43 : decode b_E_between 43 = .ok (.if_icmp .gt 107, 3) := by decide +kernel
theorem d_E_between_46 : decode b_E_between 46 = .ok (.aload_n 0, 1) := by decide +kernel
theorem d_E_between_47 : decode b_E_between 47 = .ok (.getfield 9, 3) := by decide +kernel
theorem d_E_between_50 : decode b_E_between 50 = .ok (.iconst 0, 1) := by decide +kernel
theorem d_E_between_51 : decode b_E_between 51 = .ok (.iaload, 1) := by decide +kernel
theorem d_E_between_52 : decode b_E_between 52 = .ok (.istore 5, 2) := by decide +kernel
theorem d_E_between_54 : decode b_E_between 54 = .ok (.aload_n 0, 1) := by decide +kernel
theorem d_E_between_55 : decode b_E_between 55 = .ok (.getfield 9, 3) := by decide +kernel
theorem d_E_between_58 : decode b_E_between 58 = .ok (.iconst 0, 1) := by decide +kernel
theorem d_E_between_59 : decode b_E_between 59 = .ok (.iload 4, 2) := by decide +kernel
theorem d_E_between_61 : decode b_E_between 61 = .ok (.iastore, 1) := by decide +kernel
theorem d_E_between_62 : decode b_E_between 62 = .ok (.iconst 1, 1) := by decide +kernel
theorem d_E_between_63 : decode b_E_between 63 = .ok (.istore 6, 2) := by decide +kernel
theorem d_E_between_65 : decode b_E_between 65 = .ok (.iload 6, 2) := by decide +kernel
theorem d_E_between_67 : decode b_E_between 67 = .ok (.iload_n 3, 1) := by decide +kernel
theorem d_E_between_68 : decode b_E_between 68 = .ok (.if_icmp .gt 76, 3) := by decide +kernel
theorem d_E_between_71 : decode b_E_between 71 = .ok (.aload_n 1, 1) := by decide +kernel
theorem d_E_between_72 : decode b_E_between 72 = .ok (.iload 4, 2) := by decide +kernel
theorem d_E_between_74 : decode b_E_between 74 = .ok (.iconst 1, 1) := by decide +kernel
theorem d_E_between_75 : decode b_E_between 75 = .ok (.isub, 1) := by decide +kernel
theorem d_E_between_76 : decode b_E_between 76 = .ok (.invokevirtual 27, 3) := by decide +kernel
theorem d_E_between_79 : decode b_E_between 79 = .ok (.aload_n 2, 1) := by decide +kernel
theorem d_E_between_80 : decode b_E_between 80 = .ok (.iload 6, 2) := by decide +kernel
theorem d_E_between_82 : decode b_E_between 82 = .ok (.iconst 1, 1) := by decide +kernel
theorem d_E_between_83 : decode b_E_between 83 = .ok (.isub, 1) := by decide +kernel
theorem d_E_between_84 : decode b_E_between 84 = .ok (.invokevirtual 27, 3) := by decide +kernel
theorem d_E_between_87 : decode b_E_between 87 = .ok (.if_icmp .ne 8, 3) := by decide +kernel
theorem d_E_between_90 : decode b_E_between 90 = .ok (.iload 5, 2) := by decide +kernel
theorem d_E_between_92 : decode b_E_between 92 = .ok (.goto 7, 3) := by decide +kernel
theorem d_E_between_95 : decode b_E_between 95 = .ok (.iload 5, 2) := by decide +kernel
theorem d_E_between_97 : decode b_E_between 97 = .ok (.iconst 1, 1) := by decide +kernel
theorem d_E_between_98 : decode b_E_between 98 = .ok (.iadd, 1) := by decide +kernel
theorem d_E_between_99 : decode b_E_between 99 = .ok (.istore 7, 2) := by decide +kernel
theorem d_E_between_101 : decode b_E_between 101 = .ok (.aload_n 0, 1) := by decide +kernel
theorem d_E_between_102 : decode b_E_between 102 = .ok (.getfield 9, 3) := by decide +kernel
theorem d_E_between_105 : decode b_E_between 105 = .ok (.iload 6, 2) := by decide +kernel
theorem d_E_between_107 : decode b_E_between 107 = .ok (.iaload, 1) := by decide +kernel
theorem d_E_between_108 : decode b_E_between 108 = .ok (.istore 5, 2) := by decide +kernel
theorem d_E_between_110 : decode b_E_between 110 = .ok (.aload_n 0, 1) := by decide +kernel
theorem d_E_between_111 : decode b_E_between 111 = .ok (.getfield 9, 3) := by decide +kernel
theorem d_E_between_114 : decode b_E_between 114 = .ok (.iload 6, 2) := by decide +kernel
theorem d_E_between_116 : decode b_E_between 116 = .ok (.iload 7, 2) := by decide +kernel
theorem d_E_between_118 : decode b_E_between 118 = .ok (.iload 5, 2) := by decide +kernel
theorem d_E_between_120 : decode b_E_between 120 = .ok (.aload_n 0, 1) := by decide +kernel
theorem d_E_between_121 : decode b_E_between 121 = .ok (.getfield 9, 3) := by decide +kernel
theorem d_E_between_124 : decode b_E_between 124 = .ok (.iload 6, 2) := by decide +kernel
theorem d_E_between_126 : decode b_E_between 126 = .ok (.iconst 1, 1) := by decide +kernel
theorem d_E_between_127 : decode b_E_between 127 = .ok (.isub, 1) := by decide +kernel
theorem d_E_between_128 : decode b_E_between 128 = .ok (.iaload, 1) := by decide +kernel
theorem d_E_between_129 : decode b_E_between 129 = .ok (.invokestatic 21, 3) := by decide +kernel
theorem d_E_between_132 : decode b_E_between 132 = .ok (.iconst 1, 1) := by decide +kernel
theorem d_E_between_133 : decode b_E_between 133 = .ok (.iadd, 1) := by decide +kernel
theorem d_E_between_134 : decode b_E_between 134 = .ok (.invokestatic 21, 3) := by decide +kernel
theorem d_E_between_137 : decode b_E_between 137 = .ok (.iastore, 1) := by decide +kernel
theorem d_E_between_138 : decode b_E_between 138 = .ok (.iinc 6 1, 3) := by decide +kernel
theorem d_E_between_141 : decode b_E_between 141 = .ok (.goto (-76), 3) := by decide +kernel
theorem d_E_between_144 : decode b_E_between 144 = .ok (.iinc 4 1, 3) := by decide +kernel
theorem d_E_between_147 : decode b_E_between 147 = .ok (.goto (-110), 3) := by decide +kernel
theorem d_E_between_150 : decode b_E_between 150 = .ok (.aload_n 0, 1) := by decide +kernel
theorem d_E_between_151 : decode b_E_between 151 = .ok (.getfield 9, 3) := by decide +kernel
theorem d_E_between_154 : decode b_E_between 154 = .ok (.iload_n 3, 1) := by decide +kernel
theorem d_E_between_155 : decode b_E_between 155 = .ok (.iaload, 1) := by decide +kernel
theorem d_E_between_156 : decode b_E_between 156 = .ok (.ireturn, 1) := by decide +kernel
theorem d_T_init_0 : decode b_T_init 0 = .ok (.aload_n 0, 1) := by decide +kernel
theorem d_T_init_1 : decode b_T_init 1 = .ok (.invokespecial 3, 3) := by decide +kernel
theorem d_T_init_4 : decode b_T_init 4 = .ok (.aload_n 0, 1) := by decide +kernel
theorem d_T_init_5 : decode b_T_init 5 = .ok (.iload_n 1, 1) := by decide +kernel
theorem d_T_init_6 : decode b_T_init 6 = .ok (.newarray .char, 2) := by decide +kernel
theorem d_T_init_8 : decode b_T_init 8 = .ok (.putfield 9, 3) := by decide +kernel
theorem d_T_init_11 : decode b_T_init 11 = .ok (.aload_n 0, 1) := by decide +kernel
theorem d_T_init_12 : decode b_T_init 12 = .ok (.iconst 0, 1) := by decide +kernel
theorem d_T_init_13 : decode b_T_init 13 = .ok (.putfield 15, 3) := by decide +kernel
theorem d_T_init_16 : decode b_T_init 16 = .ok (.return_, 1) := by decide +kernel
theorem d_T_length_0 : decode b_T_length 0 = .ok (.aload_n 0, 1) := by decide +kernel
theorem d_T_length_1 : decode b_T_length 1 = .ok (.getfield 15, 3) := by decide +kernel
theorem d_T_length_4 : decode b_T_length 4 = .ok (.ireturn, 1) := by decide +kernel
theorem d_T_isEmpty_0 : decode b_T_isEmpty 0 = .ok (.aload_n 0, 1) := by decide +kernel
theorem d_T_isEmpty_1 : decode b_T_isEmpty 1 = .ok (.getfield 15, 3) := by decide +kernel
theorem d_T_isEmpty_4 : decode b_T_isEmpty 4 = .ok (.ifCond .ne 7, 3) := by decide +kernel
theorem d_T_isEmpty_7 : decode b_T_isEmpty 7 = .ok (.iconst 1, 1) := by decide +kernel
theorem d_T_isEmpty_8 : decode b_T_isEmpty 8 = .ok (.goto 4, 3) := by decide +kernel
theorem d_T_isEmpty_11 : decode b_T_isEmpty 11 = .ok (.iconst 0, 1) := by decide +kernel
theorem d_T_isEmpty_12 : decode b_T_isEmpty 12 = .ok (.ireturn, 1) := by decide +kernel
theorem d_T_isFull_0 : decode b_T_isFull 0 = .ok (.aload_n 0, 1) := by decide +kernel
theorem d_T_isFull_1 : decode b_T_isFull 1 = .ok (.getfield 15, 3) := by decide +kernel
theorem d_T_isFull_4 : decode b_T_isFull 4 = .ok (.aload_n 0, 1) := by decide +kernel
theorem d_T_isFull_5 : decode b_T_isFull 5 = .ok (.getfield 9, 3) := by decide +kernel
theorem d_T_isFull_8 : decode b_T_isFull 8 = .ok (.arraylength, 1) := by decide +kernel
theorem d_T_isFull_9 : decode b_T_isFull 9 = .ok (.if_icmp .lt 7, 3) := by decide +kernel
theorem d_T_isFull_12 : decode b_T_isFull 12 = .ok (.iconst 1, 1) := by decide +kernel
theorem d_T_isFull_13 : decode b_T_isFull 13 = .ok (.goto 4, 3) := by decide +kernel
theorem d_T_isFull_16 : decode b_T_isFull 16 = .ok (.iconst 0, 1) := by decide +kernel
theorem d_T_isFull_17 : decode b_T_isFull 17 = .ok (.ireturn, 1) := by decide +kernel
theorem d_T_at_0 : decode b_T_at 0 = .ok (.iload_n 1, 1) := by decide +kernel
theorem d_T_at_1 : decode b_T_at 1 = .ok (.ifCond .lt 20, 3) := by decide +kernel
theorem d_T_at_4 : decode b_T_at 4 = .ok (.iload_n 1, 1) := by decide +kernel
theorem d_T_at_5 : decode b_T_at 5 = .ok (.aload_n 0, 1) := by decide +kernel
theorem d_T_at_6 : decode b_T_at 6 = .ok (.getfield 15, 3) := by decide +kernel
theorem d_T_at_9 : decode b_T_at 9 = .ok (.if_icmp .ge 12, 3) := by decide +kernel
theorem d_T_at_12 : decode b_T_at 12 = .ok (.aload_n 0, 1) := by decide +kernel
theorem d_T_at_13 : decode b_T_at 13 = .ok (.getfield 9, 3) := by decide +kernel
theorem d_T_at_16 : decode b_T_at 16 = .ok (.iload_n 1, 1) := by decide +kernel
theorem d_T_at_17 : decode b_T_at 17 = .ok (.caload, 1) := by decide +kernel
theorem d_T_at_18 : decode b_T_at 18 = .ok (.goto 4, 3) := by decide +kernel
theorem d_T_at_21 : decode b_T_at 21 = .ok (.iconst 0, 1) := by decide +kernel
theorem d_T_at_22 : decode b_T_at 22 = .ok (.ireturn, 1) := by decide +kernel
theorem d_T_empty_0 : decode b_T_empty 0 = .ok (.aload_n 0, 1) := by decide +kernel
theorem d_T_empty_1 : decode b_T_empty 1 = .ok (.iconst 0, 1) := by decide +kernel
theorem d_T_empty_2 : decode b_T_empty 2 = .ok (.putfield 15, 3) := by decide +kernel
theorem d_T_empty_5 : decode b_T_empty 5 = .ok (.return_, 1) := by decide +kernel
theorem d_T_put_0 : decode b_T_put 0 = .ok (.aload_n 0, 1) := by decide +kernel
theorem d_T_put_1 : decode b_T_put 1 = .ok (.getfield 15, 3) := by decide +kernel
theorem d_T_put_4 : decode b_T_put 4 = .ok (.aload_n 0, 1) := by decide +kernel
theorem d_T_put_5 : decode b_T_put 5 = .ok (.getfield 9, 3) := by decide +kernel
theorem d_T_put_8 : decode b_T_put 8 = .ok (.arraylength, 1) := by decide +kernel
theorem d_T_put_9 : decode b_T_put 9 = .ok (.if_icmp .ge 23, 3) := by decide +kernel
theorem d_T_put_12 : decode b_T_put 12 = .ok (.aload_n 0, 1) := by decide +kernel
theorem d_T_put_13 : decode b_T_put 13 = .ok (.getfield 9, 3) := by decide +kernel
theorem d_T_put_16 : decode b_T_put 16 = .ok (.aload_n 0, 1) := by decide +kernel
theorem d_T_put_17 : decode b_T_put 17 = .ok (.getfield 15, 3) := by decide +kernel
theorem d_T_put_20 : decode b_T_put 20 = .ok (.iload_n 1, 1) := by decide +kernel
theorem d_T_put_21 : decode b_T_put 21 = .ok (.castore, 1) := by decide +kernel
theorem d_T_put_22 : decode b_T_put 22 = .ok (.aload_n 0, 1) := by decide +kernel
theorem d_T_put_23 : decode b_T_put 23 = .ok (.dup, 1) := by decide +kernel
theorem d_T_put_24 : decode b_T_put 24 = .ok (.getfield 15, 3) := by decide +kernel
theorem d_T_put_27 : decode b_T_put 27 = .ok (.iconst 1, 1) := by decide +kernel
theorem d_T_put_28 : decode b_T_put 28 = .ok (.iadd, 1) := by decide +kernel
theorem d_T_put_29 : decode b_T_put 29 = .ok (.putfield 15, 3) := by decide +kernel
theorem d_T_put_32 : decode b_T_put 32 = .ok (.return_, 1) := by decide +kernel
theorem d_T_putPart_0 : decode b_T_putPart 0 = .ok (.iload_n 2, 1) := by decide +kernel
theorem d_T_putPart_1 : decode b_T_putPart 1 = .ok (.istore 4, 2) := by decide +kernel
theorem d_T_putPart_3 : decode b_T_putPart 3 = .ok (.iload 4, 2) := by decide +kernel
theorem d_T_putPart_5 : decode b_T_putPart 5 = .ok (.iload_n 3, 1) := by decide +kernel
theorem d_T_putPart_6 : decode b_T_putPart 6 = .ok (.if_icmp .ge 19, 3) := by decide +kernel
theorem d_T_putPart_9 : decode b_T_putPart 9 = .ok (.aload_n 0, 1) := by decide +kernel
theorem d_T_putPart_10 : decode b_T_putPart 10 = .ok (.aload_n 1, 1) := by decide +kernel
theorem d_T_putPart_11 : decode b_T_putPart 11 = .ok (.iload 4, 2) := by decide +kernel
theorem d_T_putPart_13 : decode b_T_putPart 13 = .ok (.invokevirtual 19, 3) := by decide +kernel
theorem d_T_putPart_16 : decode b_T_putPart 16 = .ok (.invokevirtual 23, 3) := by decide +kernel
theorem d_T_putPart_19 : decode b_T_putPart 19 = .ok (.iinc 4 1, 3) := by decide +kernel
theorem d_T_putPart_22 : decode b_T_putPart 22 = .ok (.goto (-19), 3) := by decide +kernel
theorem d_T_putPart_25 : decode b_T_putPart 25 = .ok (.return_, 1) := by decide +kernel
theorem d_T_putAll_0 : decode b_T_putAll 0 = .ok (.aload_n 0, 1) := by decide +kernel
theorem d_T_putAll_1 : decode b_T_putAll 1 = .ok (.aload_n 1, 1) := by decide +kernel
theorem d_T_putAll_2 : decode b_T_putAll 2 = .ok (.iconst 0, 1) := by decide +kernel
theorem d_T_putAll_3 : decode b_T_putAll 3 = .ok (.aload_n 1, 1) := by decide +kernel
theorem d_T_putAll_4 : decode b_T_putAll 4 = .ok (.getfield 15, 3) := by decide +kernel
theorem d_T_putAll_7 : decode b_T_putAll 7 = .ok (.invokevirtual 27, 3) := by decide +kernel
theorem d_T_putAll_10 : decode b_T_putAll 10 = .ok (.return_, 1) := by decide +kernel
theorem d_T_putNumber_0 : decode b_T_putNumber 0 = .ok (.iload_n 1, 1) := by decide +kernel
theorem d_T_putNumber_1 : decode b_T_putNumber 1 = .ok (.bipush 10, 2) := by decide +kernel
theorem d_T_putNumber_3 : decode b_T_putNumber 3 = .ok (.if_icmp .lt 15, 3) := by decide +kernel
theorem d_T_putNumber_6 : decode b_T_putNumber 6 = .ok (.aload_n 0, 1) := by decide +kernel
theorem d_T_putNumber_7 : decode b_T_putNumber 7 = .ok (.bipush 48, 2) := by decide +kernel
theorem d_T_putNumber_9 : decode b_T_putNumber 9 = .ok (.iload_n 1, 1) := by decide +kernel
theorem d_T_putNumber_10 : decode b_T_putNumber 10 = .ok (.bipush 10, 2) := by decide +kernel
theorem d_T_putNumber_12 : decode b_T_putNumber 12 = .ok (.idiv, 1) := by decide +kernel
theorem d_T_putNumber_13 : decode b_T_putNumber 13 = .ok (.iadd, 1) := by decide +kernel
theorem d_T_putNumber_14 : decode b_T_putNumber 14 = .ok (.i2c, 1) := by decide +kernel
theorem d_T_putNumber_15 : decode b_T_putNumber 15 = .ok (.invokevirtual 23, 3) := by decide +kernel
theorem d_T_putNumber_18 : decode b_T_putNumber 18 = .ok (.aload_n 0, 1) := by decide +kernel
theorem d_T_putNumber_19 : decode b_T_putNumber 19 = .ok (.bipush 48, 2) := by decide +kernel
theorem d_T_putNumber_21 : decode b_T_putNumber 21 = .ok (.iload_n 1, 1) := by decide +kernel
theorem d_T_putNumber_22 : decode b_T_putNumber 22 = .ok (.bipush 10, 2) := by decide +kernel
theorem d_T_putNumber_24 : decode b_T_putNumber 24 = .ok (.irem, 1) := by decide +kernel
theorem d_T_putNumber_25 : decode b_T_putNumber 25 = .ok (.iadd, 1) := by decide +kernel
theorem d_T_putNumber_26 : decode b_T_putNumber 26 = .ok (.i2c, 1) := by decide +kernel
theorem d_T_putNumber_27 : decode b_T_putNumber 27 = .ok (.invokevirtual 23, 3) := by decide +kernel
theorem d_T_putNumber_30 : decode b_T_putNumber 30 = .ok (.return_, 1) := by decide +kernel
theorem d_T_firstPlaceOf_0 : decode b_T_firstPlaceOf 0 = .ok (.iconst 0, 1) := by decide +kernel
theorem d_T_firstPlaceOf_1 : decode b_T_firstPlaceOf 1 = .ok (.istore_n 2, 1) := by decide +kernel
theorem d_T_firstPlaceOf_2 : decode b_T_firstPlaceOf 2 = .ok (.iload_n 2, 1) := by decide +kernel
theorem d_T_firstPlaceOf_3 : decode b_T_firstPlaceOf 3 = .ok (.aload_n 0, 1) := by decide +kernel
theorem d_T_firstPlaceOf_4 : decode b_T_firstPlaceOf 4 = .ok (.getfield 15, 3) := by decide +kernel
theorem d_T_firstPlaceOf_7 : decode b_T_firstPlaceOf 7 = .ok (.if_icmp .ge 21, 3) := by decide +kernel
theorem d_T_firstPlaceOf_10 : decode b_T_firstPlaceOf 10 = .ok (.aload_n 0, 1) := by decide +kernel
theorem d_T_firstPlaceOf_11 : decode b_T_firstPlaceOf 11 = .ok (.getfield 9, 3) := by decide +kernel
theorem d_T_firstPlaceOf_14 : decode b_T_firstPlaceOf 14 = .ok (.iload_n 2, 1) := by decide +kernel
theorem d_T_firstPlaceOf_15 : decode b_T_firstPlaceOf 15 = .ok (.caload, 1) := by decide +kernel
theorem d_T_firstPlaceOf_16 : decode b_T_firstPlaceOf 16 = .ok (.iload_n 1, 1) := by decide +kernel
theorem d_T_firstPlaceOf_17 : decode b_T_firstPlaceOf 17 = .ok (.if_icmp .ne 5, 3) := by decide +kernel
theorem d_T_firstPlaceOf_20 : decode b_T_firstPlaceOf 20 = .ok (.iload_n 2, 1) := by decide +kernel
theorem d_T_firstPlaceOf_21 : decode b_T_firstPlaceOf 21 = .ok (.ireturn, 1) := by decide +kernel
theorem d_T_firstPlaceOf_22 : decode b_T_firstPlaceOf 22 = .ok (.iinc 2 1, 3) := by decide +kernel
theorem d_T_firstPlaceOf_25 : decode b_T_firstPlaceOf 25 = .ok (.goto (-23), 3) := by decide +kernel
theorem d_T_firstPlaceOf_28 : decode b_T_firstPlaceOf 28 = .ok (.iconst (-1), 1) := by decide +kernel
theorem d_T_firstPlaceOf_29 : decode b_T_firstPlaceOf 29 = .ok (.ireturn, 1) := by decide +kernel
theorem d_T_lastPlaceOf_0 : decode b_T_lastPlaceOf 0 = .ok (.aload_n 0, 1) := by decide +kernel
theorem d_T_lastPlaceOf_1 : decode b_T_lastPlaceOf 1 = .ok (.getfield 15, 3) := by decide +kernel
theorem d_T_lastPlaceOf_4 : decode b_T_lastPlaceOf 4 = .ok (.iconst 1, 1) := by decide +kernel
theorem d_T_lastPlaceOf_5 : decode b_T_lastPlaceOf 5 = .ok (.isub, 1) := by decide +kernel
theorem d_T_lastPlaceOf_6 : decode b_T_lastPlaceOf 6 = .ok (.istore_n 2, 1) := by decide +kernel
theorem d_T_lastPlaceOf_7 : decode b_T_lastPlaceOf 7 = .ok (.iload_n 2, 1) := by decide +kernel
theorem d_T_lastPlaceOf_8 : decode b_T_lastPlaceOf 8 = .ok (.ifCond .lt 21, 3) := by decide +kernel
theorem d_T_lastPlaceOf_11 : decode b_T_lastPlaceOf 11 = .ok (.aload_n 0, 1) := by decide +kernel
theorem d_T_lastPlaceOf_12 : decode b_T_lastPlaceOf 12 = .ok (.getfield 9, 3) := by decide +kernel
theorem d_T_lastPlaceOf_15 : decode b_T_lastPlaceOf 15 = .ok (.iload_n 2, 1) := by decide +kernel
theorem d_T_lastPlaceOf_16 : decode b_T_lastPlaceOf 16 = .ok (.caload, 1) := by decide +kernel
theorem d_T_lastPlaceOf_17 : decode b_T_lastPlaceOf 17 = .ok (.iload_n 1, 1) := by decide +kernel
theorem d_T_lastPlaceOf_18 : decode b_T_lastPlaceOf 18 = .ok (.if_icmp .ne 5, 3) := by decide +kernel
theorem d_T_lastPlaceOf_21 : decode b_T_lastPlaceOf 21 = .ok (.iload_n 2, 1) := by decide +kernel
theorem d_T_lastPlaceOf_22 : decode b_T_lastPlaceOf 22 = .ok (.ireturn, 1) := by decide +kernel
theorem d_T_lastPlaceOf_23 : decode b_T_lastPlaceOf 23 = .ok (.iinc 2 (-1), 3) := by decide +kernel
theorem d_T_lastPlaceOf_26 : decode b_T_lastPlaceOf 26 = .ok (.goto (-19), 3) := by decide +kernel
theorem d_T_lastPlaceOf_29 : decode b_T_lastPlaceOf 29 = .ok (.iconst (-1), 1) := by decide +kernel
theorem d_T_lastPlaceOf_30 : decode b_T_lastPlaceOf 30 = .ok (.ireturn, 1) := by decide +kernel
theorem d_T_compareWith_0 : decode b_T_compareWith 0 = .ok (.aload_n 0, 1) := by decide +kernel
theorem d_T_compareWith_1 : decode b_T_compareWith 1 = .ok (.getfield 15, 3) := by decide +kernel
theorem d_T_compareWith_4 : decode b_T_compareWith 4 = .ok (.aload_n 1, 1) := by decide +kernel
theorem d_T_compareWith_5 : decode b_T_compareWith 5 = .ok (.getfield 15, 3) := by decide +kernel
theorem d_T_compareWith_8 : decode b_T_compareWith 8 = .ok (.invokestatic 31, 3) := by decide +kernel
theorem d_T_compareWith_11 : decode b_T_compareWith 11 = .ok (.istore_n 2, 1) := by decide +kernel
theorem d_T_compareWith_12 : decode b_T_compareWith 12 = .ok (.iconst 0, 1) := by decide +kernel
theorem d_T_compareWith_13 : decode b_T_compareWith 13 = .ok (.istore_n 3, 1) := by decide +kernel
theorem d_T_compareWith_14 : decode b_T_compareWith 14 = .ok (.iload_n 3, 1) := by decide +kernel
theorem d_T_compareWith_15 : decode b_T_compareWith 15 = .ok (.iload_n 2, 1) := by decide +kernel
theorem d_T_compareWith_16 : decode b_T_compareWith 16 = .ok (.if_icmp .ge 38, 3) := by decide +kernel
theorem d_T_compareWith_19 : decode b_T_compareWith 19 = .ok (.aload_n 0, 1) := by decide +kernel
theorem d_T_compareWith_20 : decode b_T_compareWith 20 = .ok (.getfield 9, 3) := by decide +kernel
theorem d_T_compareWith_23 : decode b_T_compareWith 23 = .ok (.iload_n 3, 1) := by decide +kernel
theorem d_T_compareWith_24 : decode b_T_compareWith 24 = .ok (.caload, 1) := by decide +kernel
theorem d_T_compareWith_25 : decode b_T_compareWith 25 = .ok (.aload_n 1, 1) := by decide +kernel
theorem d_T_compareWith_26 : decode b_T_compareWith 26 = .ok (.getfield 9, 3) := by decide +kernel
theorem d_T_compareWith_29 : decode b_T_compareWith 29 = .ok (.iload_n 3, 1) := by decide +kernel
theorem d_T_compareWith_30 : decode b_T_compareWith 30 = .ok (.caload, 1) := by decide +kernel
theorem d_T_compareWith_31 : decode b_T_compareWith 31 = .ok (.if_icmp .eq 17, 3) := by decide +kernel
theorem d_T_compareWith_34 : decode b_T_compareWith 34 = .ok (.aload_n 0, 1) := by decide +kernel
theorem d_T_compareWith_35 : decode b_T_compareWith 35 = .ok (.getfield 9, 3) := by decide +kernel
theorem d_T_compareWith_38 : decode b_T_compareWith 38 = .ok (.iload_n 3, 1) := by decide +kernel
theorem d_T_compareWith_39 : decode b_T_compareWith 39 = .ok (.caload, 1) := by decide +kernel
theorem d_T_compareWith_40 : decode b_T_compareWith 40 = .ok (.aload_n 1, 1) := by decide +kernel
theorem d_T_compareWith_41 : decode b_T_compareWith 41 = .ok (.getfield 9, 3) := by decide +kernel
theorem d_T_compareWith_44 : decode b_T_compareWith 44 = .ok (.iload_n 3, 1) := by decide +kernel
theorem d_T_compareWith_45 : decode b_T_compareWith 45 = .ok (.caload, 1) := by decide +kernel
theorem d_T_compareWith_46 : decode b_T_compareWith 46 = .ok (.isub, 1) := by decide +kernel
theorem d_T_compareWith_47 : decode b_T_compareWith 47 = .ok (.ireturn, 1) := by decide +kernel
theorem d_T_compareWith_48 : decode b_T_compareWith 48 = .ok (.iinc 3 1, 3) := by decide +kernel
theorem d_T_compareWith_51 : decode b_T_compareWith 51 = .ok (.goto (-37), 3) := by decide +kernel
theorem d_T_compareWith_54 : decode b_T_compareWith 54 = .ok (.aload_n 0, 1) := by decide +kernel
theorem d_T_compareWith_55 : decode b_T_compareWith 55 = .ok (.getfield 15, 3) := by decide +kernel
theorem d_T_compareWith_58 : decode b_T_compareWith 58 = .ok (.aload_n 1, 1) := by decide +kernel
theorem d_T_compareWith_59 : decode b_T_compareWith 59 = .ok (.getfield 15, 3) := by decide +kernel
theorem d_T_compareWith_62 : decode b_T_compareWith 62 = .ok (.isub, 1) := by decide +kernel
theorem d_T_compareWith_63 : decode b_T_compareWith 63 = .ok (.ireturn, 1) := by decide +kernel
theorem d_T_goesOnBehind_0 : decode b_T_goesOnBehind 0 = .ok (.aload_n 0, 1) := by decide +kernel
theorem d_T_goesOnBehind_1 : decode b_T_goesOnBehind 1 = .ok (.getfield 15, 3) := by decide +kernel
theorem d_T_goesOnBehind_4 : decode b_T_goesOnBehind 4 = .ok (.aload_n 1, 1) := by decide +kernel
theorem d_T_goesOnBehind_5 : decode b_T_goesOnBehind 5 = .ok (.getfield 15, 3) := by decide +kernel
theorem d_T_goesOnBehind_8 : decode b_T_goesOnBehind 8 = .ok (.if_icmp .gt 5, 3) := by decide +kernel
theorem d_T_goesOnBehind_11 : decode b_T_goesOnBehind 11 = .ok (.iconst 0, 1) := by decide +kernel
theorem d_T_goesOnBehind_12 : decode b_T_goesOnBehind 12 = .ok (.ireturn, 1) := by decide +kernel
theorem d_T_goesOnBehind_13 : decode b_T_goesOnBehind 13 = .ok (.iconst 0, 1) := by decide +kernel
theorem d_T_goesOnBehind_14 : decode b_T_goesOnBehind 14 = .ok (.istore_n 2, 1) := by decide +kernel
theorem d_T_goesOnBehind_15 : decode b_T_goesOnBehind 15 = .ok (.iload_n 2, 1) := by decide +kernel
theorem d_T_goesOnBehind_16 : decode b_T_goesOnBehind 16 = .ok (.aload_n 1, 1) := by decide +kernel
theorem d_T_goesOnBehind_17 : decode b_T_goesOnBehind 17 = .ok (.getfield 15, 3) := by decide +kernel
theorem d_T_goesOnBehind_20 : decode b_T_goesOnBehind 20 = .ok (.if_icmp .ge 26, 3) := by decide +kernel
theorem d_T_goesOnBehind_23 : decode b_T_goesOnBehind 23 = .ok (.aload_n 0, 1) := by decide +kernel
theorem d_T_goesOnBehind_24 : decode b_T_goesOnBehind 24 = .ok (.getfield 9, 3) := by decide +kernel
theorem d_T_goesOnBehind_27 : decode b_T_goesOnBehind 27 = .ok (.iload_n 2, 1) := by decide +kernel
theorem d_T_goesOnBehind_28 : decode b_T_goesOnBehind 28 = .ok (.caload, 1) := by decide +kernel
theorem d_T_goesOnBehind_29 : decode b_T_goesOnBehind 29 = .ok (.aload_n 1, 1) := by decide +kernel
theorem d_T_goesOnBehind_30 : decode b_T_goesOnBehind 30 = .ok (.getfield 9, 3) := by decide +kernel
theorem d_T_goesOnBehind_33 : decode b_T_goesOnBehind 33 = .ok (.iload_n 2, 1) := by decide +kernel
theorem d_T_goesOnBehind_34 : decode b_T_goesOnBehind 34 = .ok (.caload, 1) := by decide +kernel
theorem d_T_goesOnBehind_35 : decode b_T_goesOnBehind 35 = .ok (.if_icmp .eq 5, 3) := by decide +kernel
theorem d_T_goesOnBehind_38 : decode b_T_goesOnBehind 38 = .ok (.iconst 0, 1) := by decide +kernel
theorem d_T_goesOnBehind_39 : decode b_T_goesOnBehind 39 = .ok (.ireturn, 1) := by decide +kernel
theorem d_T_goesOnBehind_40 : decode b_T_goesOnBehind 40 = .ok (.iinc 2 1, 3) := by decide +kernel
theorem d_T_goesOnBehind_43 : decode b_T_goesOnBehind 43 = .ok (.goto (-28), 3) := by decide +kernel
theorem d_T_goesOnBehind_46 : decode b_T_goesOnBehind 46 = .ok (.iconst 1, 1) := by decide +kernel
theorem d_T_goesOnBehind_47 : decode b_T_goesOnBehind 47 = .ok (.ireturn, 1) := by decide +kernel
theorem d_T_canBeShort_0 : decode b_T_canBeShort 0 = .ok (.aload_n 0, 1) := by decide +kernel
theorem d_T_canBeShort_1 : decode b_T_canBeShort 1 = .ok (.getfield 15, 3) := by decide +kernel
theorem d_T_canBeShort_4 : decode b_T_canBeShort 4 = .ok (.iconst 4, 1) := by decide +kernel
theorem d_T_canBeShort_5 : decode b_T_canBeShort 5 = .ok (.if_icmp .gt 14, 3) := by decide +kernel
theorem d_T_canBeShort_8 : decode b_T_canBeShort 8 = .ok (.aload_n 0, 1) := by decide +kernel
theorem d_T_canBeShort_9 : decode b_T_canBeShort 9 = .ok (.iconst 0, 1) := by decide +kernel
theorem d_T_canBeShort_10 : decode b_T_canBeShort 10 = .ok (.invokevirtual 19, 3) := by decide +kernel
theorem d_T_canBeShort_13 : decode b_T_canBeShort 13 = .ok (.invokestatic 37, 3) := by decide +kernel
theorem d_T_canBeShort_16 : decode b_T_canBeShort 16 = .ok (.ifCond .ne 5, 3) := by decide +kernel
theorem d_T_canBeShort_19 : decode b_T_canBeShort 19 = .ok (.iconst 0, 1) := by decide +kernel
theorem d_T_canBeShort_20 : decode b_T_canBeShort 20 = .ok (.ireturn, 1) := by decide +kernel
theorem d_T_canBeShort_21 : decode b_T_canBeShort 21 = .ok (.iconst 1, 1) := by decide +kernel
theorem d_T_canBeShort_22 : decode b_T_canBeShort 22 = .ok (.istore_n 1, 1) := by decide +kernel
theorem d_T_canBeShort_23 : decode b_T_canBeShort 23 = .ok (.iload_n 1, 1) := by decide +kernel
theorem d_T_canBeShort_24 : decode b_T_canBeShort 24 = .ok (.aload_n 0, 1) := by decide +kernel
theorem d_T_canBeShort_25 : decode b_T_canBeShort 25 = .ok (.getfield 15, 3) := by decide +kernel
theorem d_T_canBeShort_28 : decode b_T_canBeShort 28 = .ok (.if_icmp .ge 35, 3) := by decide +kernel
theorem d_T_canBeShort_31 : decode b_T_canBeShort 31 = .ok (.aload_n 0, 1) := by decide +kernel
theorem d_T_canBeShort_32 : decode b_T_canBeShort 32 = .ok (.getfield 9, 3) := by decide +kernel
theorem d_T_canBeShort_35 : decode b_T_canBeShort 35 = .ok (.iload_n 1, 1) := by decide +kernel
theorem d_T_canBeShort_36 : decode b_T_canBeShort 36 = .ok (.caload, 1) := by decide +kernel
theorem d_T_canBeShort_37 : decode b_T_canBeShort 37 = .ok (.invokestatic 37, 3) := by decide +kernel
theorem d_T_canBeShort_40 : decode b_T_canBeShort 40 = .ok (.ifCond .ne 17, 3) := by decide +kernel
theorem d_T_canBeShort_43 : decode b_T_canBeShort 43 = .ok (.aload_n 0, 1) := by decide +kernel
theorem d_T_canBeShort_44 : decode b_T_canBeShort 44 = .ok (.getfield 9, 3) := by decide +kernel
theorem d_T_canBeShort_47 : decode b_T_canBeShort 47 = .ok (.iload_n 1, 1) := by decide +kernel
theorem d_T_canBeShort_48 : decode b_T_canBeShort 48 = .ok (.caload, 1) := by decide +kernel
theorem d_T_canBeShort_49 : decode b_T_canBeShort 49 = .ok (.invokestatic 41, 3) := by decide +kernel
theorem d_T_canBeShort_52 : decode b_T_canBeShort 52 = .ok (.ifCond .ne 5, 3) := by decide +kernel
theorem d_T_canBeShort_55 : decode b_T_canBeShort 55 = .ok (.iconst 0, 1) := by decide +kernel
theorem d_T_canBeShort_56 : decode b_T_canBeShort 56 = .ok (.ireturn, 1) := by decide +kernel
theorem d_T_canBeShort_57 : decode b_T_canBeShort 57 = .ok (.iinc 1 1, 3) := by decide +kernel
theorem d_T_canBeShort_60 : decode b_T_canBeShort 60 = .ok (.goto (-37), 3) := by decide +kernel
theorem d_T_canBeShort_63 : decode b_T_canBeShort 63 = .ok (.iconst 1, 1) := by decide +kernel
theorem d_T_canBeShort_64 : decode b_T_canBeShort 64 = .ok (.ireturn, 1) := by decide +kernel
theorem d_T_isBetterShortThan_0 : decode b_T_isBetterShortThan 0 = .ok (.aload_n 0, 1) := by decide +kernel
theorem d_T_isBetterShortThan_1 : decode b_T_isBetterShortThan 1 = .ok (.getfield 15, 3) := by decide +kernel
theorem d_T_isBetterShortThan_4 : decode b_T_isBetterShortThan 4 = .ok (.aload_n 1, 1) := by decide +kernel
theorem d_T_isBetterShortThan_5 : decode b_T_isBetterShortThan 5 = .ok (.getfield 15, 3) := by decide +kernel
theorem d_T_isBetterShortThan_8 : decode b_T_isBetterShortThan 8 = .ok (.if_icmp .eq 22, 3) := by decide +kernel
theorem d_T_isBetterShortThan_11 : decode b_T_isBetterShortThan 11 = .ok (.aload_n 0, 1) := by decide +kernel
theorem d_T_isBetterShortThan_12 : decode b_T_isBetterShortThan 12 = .ok (.getfield 15, 3) := by decide +kernel
theorem d_T_isBetterShortThan_15 : decode b_T_isBetterShortThan 15 = .ok (.aload_n 1, 1) := by decide +kernel
theorem d_T_isBetterShortThan_16 : decode b_T_isBetterShortThan 16 = .ok (.getfield 15, 3) := by decide +kernel
theorem d_T_isBetterShortThan_19 : decode b_T_isBetterShortThan 19 = .ok (.if_icmp .ge 7, 3) := by decide +kernel
theorem d_T_isBetterShortThan_22 : decode b_T_isBetterShortThan 22 = .ok (.iconst 1, 1) := by decide +kernel
theorem d_T_isBetterShortThan_23 : decode b_T_isBetterShortThan 23 = .ok (.goto 20, 3) := by decide +kernel
theorem d_T_isBetterShortThan_26 : decode b_T_isBetterShortThan 26 = .ok (.iconst 0, 1) := by decide +kernel
theorem d_T_isBetterShortThan_27 : decode b_T_isBetterShortThan 27 = .ok (.goto 16, 3) := by decide +kernel
theorem d_T_isBetterShortThan_30 : decode b_T_isBetterShortThan 30 = .ok (.aload_n 0, 1) := by decide +kernel
theorem d_T_isBetterShortThan_31 : decode b_T_isBetterShortThan 31 = .ok (.aload_n 1, 1) := by decide +kernel
theorem d_T_isBetterShortThan_32 : decode b_T_isBetterShortThan 32 = .ok (.invokevirtual 44, 3) := by decide +kernel
theorem d_T_isBetterShortThan_35 : decode b_T_isBetterShortThan 35 = .ok (.ifCond .ge 7, 3) := by decide +kernel
theorem d_T_isBetterShortThan_38 : decode b_T_isBetterShortThan 38 = .ok (.iconst 1, 1) := by decide +kernel
theorem d_T_isBetterShortThan_39 : decode b_T_isBetterShortThan 39 = .ok (.goto 4, 3) := by decide +kernel
theorem d_T_isBetterShortThan_42 : decode b_T_isBetterShortThan 42 = .ok (.iconst 0, 1) := by decide +kernel
theorem d_T_isBetterShortThan_43 : decode b_T_isBetterShortThan 43 = .ok (.ireturn, 1) := by decide +kernel
end
section
/-! ===== pictures: a system of n cells at the addresses ad k; its numbers are M k j ===== -/
abbrev PM : Type := Nat → Nat → Int32
def pu (M : PM) (k j : Nat) (v : Int32) : PM := va_up M k (upd (M k) j v)
theorem pu_eq (M : PM) (k j : Nat) (v : Int32) (a b : Nat) : pu M k j v a b = if a = k ∧ b = j then v else M a b := by
  unfold pu va_up upd
  by_cases h1 : a = k
  · subst h1
    by_cases h2 : b = j
    · simp [h2]
    · simp [h2]
  · simp [h1]
theorem pu_s (M : PM) (k j : Nat) (v : Int32) : pu M k j v k j = v := by simp [pu_eq]
theorem pu_k (M : PM) (k j : Nat) (v : Int32) {a : Nat} (b : Nat) (h : a ≠ k) : pu M k j v a b = M a b := by simp [pu_eq, h]
theorem pu_j (M : PM) (k j : Nat) (v : Int32) (a : Nat) {b : Nat} (h : b ≠ j) : pu M k j v a b = M a b := by simp [pu_eq, h]
def gw (n : Nat) (ad : Nat → Nat) (cf : Nat → (Nat → Int32) → va_E) (M : PM) : va_W := (List.range n).map (fun k => (ad k, cf k (M k)))
theorem gw_at {n : Nat} {ad : Nat → Nat} {cf : Nat → (Nat → Int32) → va_E} {M : PM} {k : Nat} (h : k < n) {q : va_E} (hq : cf k (M k) = q) : (gw n ad cf M)[k]? = some (ad k, q) := by
  subst hq
  simp [gw, h]
theorem gw_inv {n : Nat} {ad : Nat → Nat} {cf : Nat → (Nat → Int32) → va_E} {M : PM} {k : Nat} {q : Nat × va_E} (h : (gw n ad cf M)[k]? = some q) : k < n ∧ q = (ad k, cf k (M k)) := by
  unfold gw at h
  have hl : k < n := by
    have := (List.getElem?_eq_some_iff.mp h).1
    simpa using this
  rw [List.getElem?_map, List.getElem?_range hl] at h
  exact ⟨hl, (Option.some.inj h).symm⟩
theorem gw_set {n : Nat} {ad : Nat → Nat} {cf : Nat → (Nat → Int32) → va_E} {M : PM} {k : Nat} (r : Nat → Int32) {q : va_E} (hq : cf k r = q) : (gw n ad cf M).set k (ad k, q) = gw n ad cf (va_up M k r) := by
  subst hq
  apply List.ext_getElem?
  intro j
  by_cases hj : j = k
  · subst hj
    by_cases hl : j < n
    · rw [List.getElem?_set_self (by simpa [gw] using hl), gw_at hl rfl, va_up_self]
    · rw [List.getElem?_eq_none (by simp [gw]; omega), List.getElem?_eq_none (by simp [gw]; omega)]
  · rw [List.getElem?_set_ne (Ne.symm hj)]
    by_cases hl : j < n
    · rw [gw_at hl rfl, gw_at hl rfl, va_up_ne _ _ hj]
    · rw [List.getElem?_eq_none (by simp [gw]; omega), List.getElem?_eq_none (by simp [gw]; omega)]
def GA (n : Nat) (ad : Nat → Nat) : Nat → Prop := fun q => ∃ k : Nat, k < n ∧ q = ad k
def GI (n : Nat) (ad : Nat → Nat) : Prop := ∀ i j : Nat, i < n → j < n → ad i = ad j → i = j
theorem gw_D {n : Nat} {ad : Nat → Nat} {cf : Nat → (Nat → Int32) → va_E} {M : PM} {A : Nat → Prop} (hI : GI n ad) (hA : ∀ q, GA n ad q → A q) : va_D A (gw n ad cf M) := by
  refine ⟨fun i j p q hp hq e => ?_, fun k q hk => ?_⟩
  · obtain ⟨h1, e1⟩ := gw_inv hp
    obtain ⟨h2, e2⟩ := gw_inv hq
    subst e1; subst e2
    exact hI i j h1 h2 e
  · obtain ⟨h1, e1⟩ := gw_inv hk
    subst e1
    exact hA _ ⟨k, h1, rfl⟩
/-- numbers as ints -/
def bI (b : Bool) : Int32 := if b then 1 else 0
def oI (o : Option Nat) : Int32 := match o with
  | none => -1
  | some k => nI k
theorem bI_t : bI true = 1 := rfl
theorem bI_f : bI false = 0 := rfl
theorem bz1 {t : Bool} (h : t = true) : some (Value.int (nI 1)) = some (.int (bI t)) := by rw [h]; rfl
theorem bz0 {t : Bool} (h : t = false) : some (Value.int (nI 0)) = some (.int (bI t)) := by rw [h]; rfl
theorem b_f {t : Bool} {P : Prop} (ht : t = true ↔ P) (h : ¬ P) : t = false := by
  cases t with
  | false => rfl
  | true => exact absurd (ht.mp rfl) h
theorem nI1 : nI 1 = 1 := rfl
theorem nI_inj {a b : Nat} (ha : a < 2 ^ 31) (hb : b < 2 ^ 31) (h : nI a = nI b) : a = b := (nI_eq ha hb).mp h
theorem nI_m1 {a : Nat} (ha : a < 2 ^ 31) : ¬ nI a = -1 := by
  intro h
  have h1 := nI_toInt ha
  rw [h] at h1
  have h2 : (-1 : Int32).toInt = -1 := by decide
  omega
theorem oI_neg {o : Option Nat} (ho : ∀ k, o = some k → k < 2 ^ 31) : oI o < 0 ↔ o = none := by
  cases o with
  | none => simp [oI]
  | some k =>
    have := ho k rfl
    simp only [oI, reduceCtorEq, iff_false]
    exact nI_pos this
section GR
variable {p : Program} {l : Launch} {e : Env} {R : Room} {s : State} {m : MethodId} {args : Array Value} {below : List Frame} {meth : Method} {c : Code} {H : Heap} {locs : List Loc} {cells slots : Nat} {Q : State → Prop}
variable {cc : ByteArray} {pc : Nat} {ls : Array Slot} {rest : List Value} {D : va_G} {cl : List vw_C} {A : Nat → Prop} {tys : List (ClassId × FieldType)} {H0 : Heap}
variable {n : Nat} {ad : Nat → Nat} {cf : Nat → (Nat → Int32) → va_E} {M : PM}
/-! numbers -/
theorem n_const (hx : p.tables.exec = Jvm.exec) (hb : c.code = cc) {k : Nat} {z : Int} (hdg : decode cc pc = .ok (.iconst z, 1)) (hz : Int32.ofInt z = nI k) (kk : W p l e R s m args below meth c H locs cells slots Q (F0 m (pc + 1) ls (.int (nI k) :: rest))) : W p l e R s m args below meth c H locs cells slots Q (F0 m pc ls rest) := lv_iconst hx hb hdg hz kk
theorem n_bipush (hx : p.tables.exec = Jvm.exec) (hb : c.code = cc) {k : Nat} {z : Int} (hdg : decode cc pc = .ok (.bipush z, 2)) (hz : (Int8.ofInt z).toInt32 = nI k) (kk : W p l e R s m args below meth c H locs cells slots Q (F0 m (pc + 2) ls (.int (nI k) :: rest))) : W p l e R s m args below meth c H locs cells slots Q (F0 m pc ls rest) := lv_bipush hx hb hdg hz kk
theorem n_iadd (hx : p.tables.exec = Jvm.exec) (hb : c.code = cc) {a b : Nat} (hdg : decode cc pc = .ok (.iadd, 1)) (kk : W p l e R s m args below meth c H locs cells slots Q (F0 m (pc + 1) ls (.int (nI (a + b)) :: rest))) : W p l e R s m args below meth c H locs cells slots Q (F0 m pc ls (.int (nI b) :: .int (nI a) :: rest)) :=
  lv_iadd hx hb hdg (by rw [nI_add]; exact kk)
theorem n_imul (hx : p.tables.exec = Jvm.exec) (hb : c.code = cc) {a b : Nat} (hdg : decode cc pc = .ok (.imul, 1)) (kk : W p l e R s m args below meth c H locs cells slots Q (F0 m (pc + 1) ls (.int (nI (a * b)) :: rest))) : W p l e R s m args below meth c H locs cells slots Q (F0 m pc ls (.int (nI b) :: .int (nI a) :: rest)) :=
  lv_imul hx hb hdg (by rw [pk_mul]; exact kk)
theorem n_isub (hx : p.tables.exec = Jvm.exec) (hb : c.code = cc) {a b : Nat} (hdg : decode cc pc = .ok (.isub, 1)) (h : b ≤ a) (kk : W p l e R s m args below meth c H locs cells slots Q (F0 m (pc + 1) ls (.int (nI (a - b)) :: rest))) : W p l e R s m args below meth c H locs cells slots Q (F0 m pc ls (.int (nI b) :: .int (nI a) :: rest)) :=
  lv_isub hx hb hdg (by rw [pk_sub h]; exact kk)
theorem n_inc (hx : p.tables.exec = Jvm.exec) (hb : c.code = cc) {i nL k a : Nat} {lv lv' : List (Nat × Value)} (hdg : decode cc pc = .ok (.iinc i 1, 3)) (h : lv_has ls nL lv) (hk : lv[k]? = some (i, .int (nI a))) (hn : i < nL) (hl : (i, Value.int (nI (a + 1))) :: lv.filter (fun q => !(q.1 == i) && !(q.1 + 1 == i && q.2.category == 2)) = lv')
    (kk : ∀ ls' : Array Slot, lv_has ls' nL lv' → W p l e R s m args below meth c H locs cells slots Q (F0 m (pc + 3) ls' rest)) : W p l e R s m args below meth c H locs cells slots Q (F0 m pc ls rest) :=
  lv_iinc hx hb hdg h hk (nI_1 a) hn hl kk
theorem n_ge (hx : p.tables.exec = Jvm.exec) (hb : c.code = cc) {a b : Nat} {off : Int} {tgt : Nat} (hdg : decode cc pc = .ok (.if_icmp .ge off, 3)) (ht : (pc : Int) + off = (tgt : Int)) (ha : a < 2 ^ 31) (hb' : b < 2 ^ 31)
    (kt : b ≤ a → W p l e R s m args below meth c H locs cells slots Q (F0 m tgt ls rest)) (kf : a < b → W p l e R s m args below meth c H locs cells slots Q (F0 m (pc + 3) ls rest)) : W p l e R s m args below meth c H locs cells slots Q (F0 m pc ls (.int (nI b) :: .int (nI a) :: rest)) :=
  lv_icmp_ge hx hb hdg ht (fun h => kt ((nI_leI hb' ha).mp h)) (fun h => kf (Nat.lt_of_not_le fun q => h ((nI_leI hb' ha).mpr q)))
theorem n_lt (hx : p.tables.exec = Jvm.exec) (hb : c.code = cc) {a b : Nat} {off : Int} {tgt : Nat} (hdg : decode cc pc = .ok (.if_icmp .lt off, 3)) (ht : (pc : Int) + off = (tgt : Int)) (ha : a < 2 ^ 31) (hb' : b < 2 ^ 31)
    (kt : a < b → W p l e R s m args below meth c H locs cells slots Q (F0 m tgt ls rest)) (kf : b ≤ a → W p l e R s m args below meth c H locs cells slots Q (F0 m (pc + 3) ls rest)) : W p l e R s m args below meth c H locs cells slots Q (F0 m pc ls (.int (nI b) :: .int (nI a) :: rest)) :=
  lv_icmp_lt hx hb hdg ht (fun h => kt ((nI_ltI ha hb').mp h)) (fun h => kf (Nat.le_of_not_lt fun q => h ((nI_ltI ha hb').mpr q)))
theorem n_gt (hx : p.tables.exec = Jvm.exec) (hb : c.code = cc) {a b : Nat} {off : Int} {tgt : Nat} (hdg : decode cc pc = .ok (.if_icmp .gt off, 3)) (ht : (pc : Int) + off = (tgt : Int)) (ha : a < 2 ^ 31) (hb' : b < 2 ^ 31)
    (kt : b < a → W p l e R s m args below meth c H locs cells slots Q (F0 m tgt ls rest)) (kf : a ≤ b → W p l e R s m args below meth c H locs cells slots Q (F0 m (pc + 3) ls rest)) : W p l e R s m args below meth c H locs cells slots Q (F0 m pc ls (.int (nI b) :: .int (nI a) :: rest)) :=
  lv_icmp_gt hx hb hdg ht (fun h => kt ((nI_ltI hb' ha).mp h)) (fun h => kf (Nat.le_of_not_lt fun q => h ((nI_ltI hb' ha).mpr q)))
theorem n_le (hx : p.tables.exec = Jvm.exec) (hb : c.code = cc) {a b : Nat} {off : Int} {tgt : Nat} (hdg : decode cc pc = .ok (.if_icmp .le off, 3)) (ht : (pc : Int) + off = (tgt : Int)) (ha : a < 2 ^ 31) (hb' : b < 2 ^ 31)
    (kt : a ≤ b → W p l e R s m args below meth c H locs cells slots Q (F0 m tgt ls rest)) (kf : b < a → W p l e R s m args below meth c H locs cells slots Q (F0 m (pc + 3) ls rest)) : W p l e R s m args below meth c H locs cells slots Q (F0 m pc ls (.int (nI b) :: .int (nI a) :: rest)) :=
  lv_icmp_le hx hb hdg ht (fun h => kt ((nI_leI ha hb').mp h)) (fun h => kf (Nat.lt_of_not_le fun q => h ((nI_leI ha hb').mpr q)))
theorem n_eq (hx : p.tables.exec = Jvm.exec) (hb : c.code = cc) {a b : Nat} {off : Int} {tgt : Nat} (hdg : decode cc pc = .ok (.if_icmp .eq off, 3)) (ht : (pc : Int) + off = (tgt : Int)) (ha : a < 2 ^ 31) (hb' : b < 2 ^ 31)
    (kt : a = b → W p l e R s m args below meth c H locs cells slots Q (F0 m tgt ls rest)) (kf : a ≠ b → W p l e R s m args below meth c H locs cells slots Q (F0 m (pc + 3) ls rest)) : W p l e R s m args below meth c H locs cells slots Q (F0 m pc ls (.int (nI b) :: .int (nI a) :: rest)) :=
  lv_icmp_eq hx hb hdg ht (fun h => kt ((nI_eq ha hb').mp h)) (fun h => kf (fun q => h ((nI_eq ha hb').mpr q)))
theorem n_ne (hx : p.tables.exec = Jvm.exec) (hb : c.code = cc) {a b : Nat} {off : Int} {tgt : Nat} (hdg : decode cc pc = .ok (.if_icmp .ne off, 3)) (ht : (pc : Int) + off = (tgt : Int)) (ha : a < 2 ^ 31) (hb' : b < 2 ^ 31)
    (kt : a ≠ b → W p l e R s m args below meth c H locs cells slots Q (F0 m tgt ls rest)) (kf : a = b → W p l e R s m args below meth c H locs cells slots Q (F0 m (pc + 3) ls rest)) : W p l e R s m args below meth c H locs cells slots Q (F0 m pc ls (.int (nI b) :: .int (nI a) :: rest)) :=
  lv_icmp_ne hx hb hdg ht (fun h => kt (fun q => h ((nI_eq ha hb').mpr q))) (fun h => kf ((nI_eq ha hb').mp h))
/-! truth values -/
theorem z_eq (hx : p.tables.exec = Jvm.exec) (hb : c.code = cc) {t : Bool} {off : Int} {tgt : Nat} (hdg : decode cc pc = .ok (.ifCond .eq off, 3)) (ht : (pc : Int) + off = (tgt : Int))
    (kt : t = false → W p l e R s m args below meth c H locs cells slots Q (F0 m tgt ls rest)) (kf : t = true → W p l e R s m args below meth c H locs cells slots Q (F0 m (pc + 3) ls rest)) : W p l e R s m args below meth c H locs cells slots Q (F0 m pc ls (.int (bI t) :: rest)) :=
  lv_if_eq hx hb hdg ht (fun h => kt (by cases t <;> simp_all [bI])) (fun h => kf (by cases t <;> simp_all [bI]))
theorem z_ne (hx : p.tables.exec = Jvm.exec) (hb : c.code = cc) {t : Bool} {off : Int} {tgt : Nat} (hdg : decode cc pc = .ok (.ifCond .ne off, 3)) (ht : (pc : Int) + off = (tgt : Int))
    (kt : t = true → W p l e R s m args below meth c H locs cells slots Q (F0 m tgt ls rest)) (kf : t = false → W p l e R s m args below meth c H locs cells slots Q (F0 m (pc + 3) ls rest)) : W p l e R s m args below meth c H locs cells slots Q (F0 m pc ls (.int (bI t) :: rest)) :=
  lv_if_ne hx hb hdg ht (fun h => kt (by cases t <;> simp_all [bI])) (fun h => kf (by cases t <;> simp_all [bI]))
/-! cells -/
theorem g_put (hx : p.tables.exec = Jvm.exec) (hb : c.code = cc) {own C : String} {T : u_T} {N ci index : Nat} (hg : ∀ w ∈ GW, w.before args s = true) (hin : ∀ w ∈ u_ws C T N, w ∈ GW) (ty0 : Nat → FieldType) (hty : ∀ k, k < N → parseFieldDescriptor (T k).2.2.1 = some (ty0 k)) (hnm : ∀ a, a < N → ∀ b, b < N → a ≠ b → (T a).2.1 ≠ (T b).2.1) (hown : s.vm.findClass own = some m.cls) (hK : va_K D cl tys s) (hI : GI n ad) (hA : ∀ q, GA n ad q → A q) (hP : va_P D cl (gw n ad cf M) H) (hS : va_S A H0 H locs) (k0 : Nat) (hk0 : k0 < n) {fs : List Value} (he : cf k0 (M k0) = .inr (ci, fs)) (hc : cl[ci]? = some (C, T, N)) (k : Nat) (hk : k < N)
    (hlink : (Cond.fieldLink own index (T k).1 (T k).2.1 (T k).2.2.1).before args s = true) (hfin : (T k).2.2.2 = false) {v : Int32} (hd : parseFieldDescriptor (T k).2.2.1 = some .int) (hl : k < fs.length) (hr : cf k0 (upd (M k0) k v) = .inr (ci, fs.set k (.int v))) (hdg : decode cc pc = .ok (.putfield index, 3))
    (kk : ∀ (H1 : Heap) (locs1 : List Loc), va_P D cl (gw n ad cf (pu M k0 k v)) H1 → va_S A H0 H1 locs1 → W p l e R s m args below meth c H1 locs1 cells slots Q (F0 m (pc + 3) ls rest)) : W p l e R s m args below meth c H locs cells slots Q (F0 m pc ls (.int v :: .ref (ad k0) :: rest)) := by
  refine va_put (D := D) (ci := ci) (v := .int v) (ty := .int) (C := C) (T := T) (N := N) hx hb hg hin ty0 hty hnm hown hK hP (gw_D hI hA) hS k0 (gw_at hk0 he) hc k hk hlink (fun _ h9 => h9) hfin hd rfl rfl hl hdg (fun H1 locs1 h1 _ h3 => ?_)
  rw [gw_set _ hr] at h1
  exact kk H1 locs1 h1 h3
theorem g_get (hx : p.tables.exec = Jvm.exec) (hb : c.code = cc) {own C : String} {T : u_T} {N ci index : Nat} (hg : ∀ w ∈ GW, w.before args s = true) (hin : ∀ w ∈ u_ws C T N, w ∈ GW) (hown : s.vm.findClass own = some m.cls) (hK : va_K D cl tys s) (hP : va_P D cl (gw n ad cf M) H) (k0 : Nat) (hk0 : k0 < n) {fs : List Value} (he : cf k0 (M k0) = .inr (ci, fs)) (hc : cl[ci]? = some (C, T, N)) (k : Nat) (hk : k < N)
    (hlink : (Cond.fieldLink own index (T k).1 (T k).2.1 (T k).2.2.1).before args s = true) {v : Value} (hv : fs[k]? = some v) (hdg : decode cc pc = .ok (.getfield index, 3))
    (kk : W p l e R s m args below meth c H locs cells slots Q (F0 m (pc + 3) ls (v :: rest))) : W p l e R s m args below meth c H locs cells slots Q (F0 m pc ls (.ref (ad k0) :: rest)) :=
  va_get (D := D) (ci := ci) (v := v) (C := C) (T := T) (N := N) hx hb hg hin hown hK hP k0 (gw_at hk0 he) hc k hk hlink (fun _ h9 => h9) hv hdg kk
theorem g_in {j N : Nat} (h : j < N) (hN : N < 2 ^ 31) : vp_in (nI j) N ∧ (nI j).toNatClampNeg = j := ⟨vp_in_nI h hN, nI_clamp (by omega)⟩
theorem g_iald (hx : p.tables.exec = Jvm.exec) (hb : c.code = cc) (hK : va_K D cl tys s) (hP : va_P D cl (gw n ad cf M) H) (k0 t0 : Nat) (hk0 : k0 < n) {cA : ClassId} {N : Nat} (hc : cf k0 (M k0) = .inl (cA, N, .inl (M k0))) (ht : tys[t0]? = some (cA, .int)) (hN : N < 2 ^ 31) {j : Nat} (hj : j < N) (hdg : decode cc pc = .ok (.iaload, 1))
    (kk : W p l e R s m args below meth c H locs cells slots Q (F0 m (pc + 1) ls (.int (M k0 j) :: rest))) : W p l e R s m args below meth c H locs cells slots Q (F0 m pc ls (.int (nI j) :: .ref (ad k0) :: rest)) :=
  va_iald hx hb hK hP k0 t0 (gw_at hk0 hc) ht (g_in hj hN).1 hdg (by rw [(g_in hj hN).2]; exact kk)
theorem g_bald (hx : p.tables.exec = Jvm.exec) (hb : c.code = cc) (hK : va_K D cl tys s) (hP : va_P D cl (gw n ad cf M) H) (k0 t0 : Nat) (hk0 : k0 < n) {cA : ClassId} {N : Nat} (hc : cf k0 (M k0) = .inl (cA, N, .inl (M k0))) (ht : tys[t0]? = some (cA, .byte)) (hN : N < 2 ^ 31) {j : Nat} (hj : j < N) (hdg : decode cc pc = .ok (.baload, 1))
    (kk : W p l e R s m args below meth c H locs cells slots Q (F0 m (pc + 1) ls (.int (M k0 j) :: rest))) : W p l e R s m args below meth c H locs cells slots Q (F0 m pc ls (.int (nI j) :: .ref (ad k0) :: rest)) :=
  va_bald hx hb hK hP k0 t0 (gw_at hk0 hc) ht (g_in hj hN).1 hdg (by rw [(g_in hj hN).2]; exact kk)
theorem g_zald (hx : p.tables.exec = Jvm.exec) (hb : c.code = cc) (hK : va_K D cl tys s) (hP : va_P D cl (gw n ad cf M) H) (k0 t0 : Nat) (hk0 : k0 < n) {cA : ClassId} {N : Nat} (hc : cf k0 (M k0) = .inl (cA, N, .inl (M k0))) (ht : tys[t0]? = some (cA, .boolean)) (hN : N < 2 ^ 31) {j : Nat} (hj : j < N) (hdg : decode cc pc = .ok (.baload, 1))
    (kk : W p l e R s m args below meth c H locs cells slots Q (F0 m (pc + 1) ls (.int (M k0 j) :: rest))) : W p l e R s m args below meth c H locs cells slots Q (F0 m pc ls (.int (nI j) :: .ref (ad k0) :: rest)) :=
  va_zald hx hb hK hP k0 t0 (gw_at hk0 hc) ht (g_in hj hN).1 hdg (by rw [(g_in hj hN).2]; exact kk)
theorem g_cald (hx : p.tables.exec = Jvm.exec) (hb : c.code = cc) (hK : va_K D cl tys s) (hP : va_P D cl (gw n ad cf M) H) (k0 t0 : Nat) (hk0 : k0 < n) {cA : ClassId} {N : Nat} (hc : cf k0 (M k0) = .inl (cA, N, .inl (M k0))) (ht : tys[t0]? = some (cA, .char)) (hN : N < 2 ^ 31) {j : Nat} (hj : j < N) (hdg : decode cc pc = .ok (.caload, 1))
    (kk : W p l e R s m args below meth c H locs cells slots Q (F0 m (pc + 1) ls (.int (M k0 j) :: rest))) : W p l e R s m args below meth c H locs cells slots Q (F0 m pc ls (.int (nI j) :: .ref (ad k0) :: rest)) :=
  va_cald hx hb hK hP k0 t0 (gw_at hk0 hc) ht (g_in hj hN).1 hdg (by rw [(g_in hj hN).2]; exact kk)
theorem g_iast (hx : p.tables.exec = Jvm.exec) (hb : c.code = cc) (hK : va_K D cl tys s) (hI : GI n ad) (hA : ∀ q, GA n ad q → A q) (hP : va_P D cl (gw n ad cf M) H) (hS : va_S A H0 H locs) (k0 t0 : Nat) (hk0 : k0 < n) {cA : ClassId} {N : Nat} (hc : ∀ r, cf k0 r = .inl (cA, N, .inl r)) (ht : tys[t0]? = some (cA, .int)) (hN : N < 2 ^ 31) {j : Nat} (hj : j < N) {v : Int32} (hdg : decode cc pc = .ok (.iastore, 1))
    (kk : ∀ (H1 : Heap) (locs1 : List Loc), va_P D cl (gw n ad cf (pu M k0 j v)) H1 → va_S A H0 H1 locs1 → W p l e R s m args below meth c H1 locs1 cells slots Q (F0 m (pc + 1) ls rest)) : W p l e R s m args below meth c H locs cells slots Q (F0 m pc ls (.int v :: .int (nI j) :: .ref (ad k0) :: rest)) := by
  refine va_iast hx hb hK hP (gw_D hI hA) hS k0 t0 (gw_at hk0 (hc _)) ht (g_in hj hN).1 hdg (fun H1 locs1 h1 _ h3 => ?_)
  rw [(g_in hj hN).2, gw_set _ (hc _)] at h1
  exact kk H1 locs1 h1 h3
theorem g_bast (hx : p.tables.exec = Jvm.exec) (hb : c.code = cc) (hK : va_K D cl tys s) (hI : GI n ad) (hA : ∀ q, GA n ad q → A q) (hP : va_P D cl (gw n ad cf M) H) (hS : va_S A H0 H locs) (k0 t0 : Nat) (hk0 : k0 < n) {cA : ClassId} {N : Nat} (hc : ∀ r, cf k0 r = .inl (cA, N, .inl r)) (ht : tys[t0]? = some (cA, .byte)) (hN : N < 2 ^ 31) {j : Nat} (hj : j < N) {v : Int32} (hdg : decode cc pc = .ok (.bastore, 1))
    (kk : ∀ (H1 : Heap) (locs1 : List Loc), va_P D cl (gw n ad cf (pu M k0 j (vp_nar .byte v))) H1 → va_S A H0 H1 locs1 → W p l e R s m args below meth c H1 locs1 cells slots Q (F0 m (pc + 1) ls rest)) : W p l e R s m args below meth c H locs cells slots Q (F0 m pc ls (.int v :: .int (nI j) :: .ref (ad k0) :: rest)) := by
  refine va_bast hx hb hK hP (gw_D hI hA) hS k0 t0 (gw_at hk0 (hc _)) ht (g_in hj hN).1 hdg (fun H1 locs1 h1 _ h3 => ?_)
  rw [(g_in hj hN).2, gw_set _ (hc _)] at h1
  exact kk H1 locs1 h1 h3
theorem g_zast (hx : p.tables.exec = Jvm.exec) (hb : c.code = cc) (hK : va_K D cl tys s) (hI : GI n ad) (hA : ∀ q, GA n ad q → A q) (hP : va_P D cl (gw n ad cf M) H) (hS : va_S A H0 H locs) (k0 t0 : Nat) (hk0 : k0 < n) {cA : ClassId} {N : Nat} (hc : ∀ r, cf k0 r = .inl (cA, N, .inl r)) (ht : tys[t0]? = some (cA, .boolean)) (hN : N < 2 ^ 31) {j : Nat} (hj : j < N) {v : Int32} (hdg : decode cc pc = .ok (.bastore, 1))
    (kk : ∀ (H1 : Heap) (locs1 : List Loc), va_P D cl (gw n ad cf (pu M k0 j (vp_nar .boolean v))) H1 → va_S A H0 H1 locs1 → W p l e R s m args below meth c H1 locs1 cells slots Q (F0 m (pc + 1) ls rest)) : W p l e R s m args below meth c H locs cells slots Q (F0 m pc ls (.int v :: .int (nI j) :: .ref (ad k0) :: rest)) := by
  refine va_zast hx hb hK hP (gw_D hI hA) hS k0 t0 (gw_at hk0 (hc _)) ht (g_in hj hN).1 hdg (fun H1 locs1 h1 _ h3 => ?_)
  rw [(g_in hj hN).2, gw_set _ (hc _)] at h1
  exact kk H1 locs1 h1 h3
theorem g_cast (hx : p.tables.exec = Jvm.exec) (hb : c.code = cc) (hK : va_K D cl tys s) (hI : GI n ad) (hA : ∀ q, GA n ad q → A q) (hP : va_P D cl (gw n ad cf M) H) (hS : va_S A H0 H locs) (k0 t0 : Nat) (hk0 : k0 < n) {cA : ClassId} {N : Nat} (hc : ∀ r, cf k0 r = .inl (cA, N, .inl r)) (ht : tys[t0]? = some (cA, .char)) (hN : N < 2 ^ 31) {j : Nat} (hj : j < N) {v : Int32} (hdg : decode cc pc = .ok (.castore, 1))
    (kk : ∀ (H1 : Heap) (locs1 : List Loc), va_P D cl (gw n ad cf (pu M k0 j (vp_nar .char v))) H1 → va_S A H0 H1 locs1 → W p l e R s m args below meth c H1 locs1 cells slots Q (F0 m (pc + 1) ls rest)) : W p l e R s m args below meth c H locs cells slots Q (F0 m pc ls (.int v :: .int (nI j) :: .ref (ad k0) :: rest)) := by
  refine va_cast hx hb hK hP (gw_D hI hA) hS k0 t0 (gw_at hk0 (hc _)) ht (g_in hj hN).1 hdg (fun H1 locs1 h1 _ h3 => ?_)
  rw [(g_in hj hN).2, gw_set _ (hc _)] at h1
  exact kk H1 locs1 h1 h3
end GR
/-! ===== contracts of a method of a system: it returns, makes nothing, writes in the system's cells alone ===== -/
abbrev rm_ (fr lo : Nat) : Room := { frames := fr, cells := 0, slots := 0, locals := lo }
def GQ (D : va_G) (n : Nat) (ad : Nat → Nat) (cf : Nat → (Nat → Int32) → va_E) (post : Option Value → PM → Prop) : Array Value → State → Outcome → State → Prop := fun _ st oc t =>
  (∃ (v : Option Value) (M' : PM), oc = .returned v ∧ post v M' ∧ va_P D clsA (gw n ad cf M') t.heap) ∧ va_F (GA n ad) st t
def MC (l : Launch) (D : va_G) (tys : List (ClassId × FieldType)) (n : Nat) (ad : Nat → Nat) (cf : Nat → (Nat → Int32) → va_E) (y : MethodName) (b : ByteArray) (mL : Nat) (ret : Option FieldType) (fr lo : Nat) (NX : State → Prop) (av : List Value) (M : PM) (post : Option Value → PM → Prop) : Prop :=
  Met l y (.code y b mL ret :: GW) (rm_ fr lo) (va_Pc av (fun U => va_P D clsA (gw n ad cf M) U.heap ∧ va_K D clsA tys U ∧ NX U)) (GQ D n ad cf post) 0 0 (GA n ad)
theorem MC.of {l : Launch} {D : va_G} {tys : List (ClassId × FieldType)} {n : Nat} {ad : Nat → Nat} {cf : Nat → (Nat → Int32) → va_E} {y : MethodName} {b : ByteArray} {mL : Nat} {ret : Option FieldType} {fr lo : Nat} {NX : State → Prop} {av : List Value} {M : PM} {post : Option Value → PM → Prop}
    (hy : plainName y.cls = true) (hle : (lg_sl av).length ≤ mL)
    (body : ∀ (p : Program) (e : Env) (s : State) (m : MethodId) (below : List Frame) (meth : Method) (c : Code) (ls : Array Slot), p.tables.exec = Jvm.exec → c.code = b → meth.sig.returnType = ret → c.maxLocals = mL → s.vm.findClass y.cls = some m.cls → (∀ w ∈ GW, w.before av.toArray s = true) → meth.locks = false →
      va_K D clsA tys s → NX s → va_P D clsA (gw n ad cf M) s.heap → va_S (GA n ad) s.heap s.heap [] → lv_has ls mL (lv_args 0 av) →
      W p l e (rm_ fr lo) s m av.toArray below meth c s.heap [] 0 0 (MQ below (GQ D n ad cf post) av.toArray s 0 0 (GA n ad)) (F0 m 0 ls [])) : MC l D tys n ad cf y b mL ret fr lo NX av M post := by
  refine Met.ofW (cc := b) (maxL := mL) (ret := ret) hy rfl ?_
  intro p e s m args below meth c s₁ B hml hv
  obtain ⟨rfl, hP, hK, hN⟩ := hv
  have hts := atoms_spec (ws := Cond.code y b mL ret :: GW) B.pre
  have hown : s.vm.findClass y.cls = some m.cls := findClass_of_methodNamed B.named
  have hl := lv_entry av (n := mL) hle
  rw [lg_entry_eq]
  generalize (lg_sl av ++ List.replicate (mL - (lg_sl av).length) Slot.unset).toArray = ls at hl ⊢
  exact body p e s m below meth c ls B.exec B.bytes B.returns hml hown (fun w hw => hts w (List.mem_cons_of_mem _ hw)) B.notSynchronized hK hN hP va_S.rf hl
theorem GW_good : ∀ w ∈ GW, (w.onTables && w.keeps) = true ∨ ∃ ty, w = .arrayClass ty := fun w h => good_of_word (List.mem_filter.mp h).2
theorem GW_in {x y : Cond} (hx : y ∈ GW) : GoodIn (x :: GW) (y :: GW) := fun w h => by
  rcases List.mem_cons.mp h with rfl | h
  · exact ⟨List.mem_cons_of_mem _ hx, GW_good _ hx⟩
  · exact ⟨List.mem_cons_of_mem _ h, GW_good _ h⟩
theorem GW_V {x cw : Cond} {own C : String} {i : Nat} {y : MethodName} (h1 : Cond.methodLink own i y ∈ GW) (h2 : Cond.instanceMethod y ∈ GW) (h3 : Cond.selects C y y ∈ GW) (h4 : Cond.initialized C ∈ GW) (hc : cw ∈ GW) : GoodIn (x :: GW) (wsV own i C y (cw :: GW)) := fun w h => by
  rcases List.mem_append.mp h with h | h
  · simp only [List.mem_cons, List.not_mem_nil, or_false] at h
    rcases h with rfl | rfl | rfl | rfl
    · exact ⟨List.mem_cons_of_mem _ h1, GW_good _ h1⟩
    · exact ⟨List.mem_cons_of_mem _ h2, GW_good _ h2⟩
    · exact ⟨List.mem_cons_of_mem _ h3, GW_good _ h3⟩
    · exact ⟨List.mem_cons_of_mem _ h4, GW_good _ h4⟩
  · exact GW_in hc w h
section GC
variable {p : Program} {l : Launch} {e : Env} {R : Room} {s : State} {m : MethodId} {args : Array Value} {below : List Frame} {meth : Method} {c : Code} {H : Heap} {locs : List Loc} {cells slots : Nat} {Q : State → Prop}
variable {cc : ByteArray} {pc nL : Nat} {ls : Array Slot} {rest : List Value} {D : va_G} {A : Nat → Prop} {tys : List (ClassId × FieldType)} {H0 : Heap}
variable {n : Nat} {ad : Nat → Nat} {cf : Nat → (Nat → Int32) → va_E} {M : PM} {own : String} {y : MethodName} {bc : ByteArray} {mL : Nat} {ret : Option FieldType} {fr lo : Nat} {NX : State → Prop} {As : List Value} {post : Option Value → PM → Prop} {index : Nat}
/-- behind a call that returns -/
theorem c_go {st0 : List Value} {a : Array Value} (hr : va_Run p l e R s m args below meth c H locs cells slots 0 0 (F0 m pc ls st0) rest (GQ D n ad cf post a) (GA n ad)) (hA : ∀ q, GA n ad q → A q) (hS : va_S A H0 H locs)
    (kk : ∀ (v : Option Value) (M' : PM) (H1 : Heap) (locs1 : List Loc), post v M' → va_P D clsA (gw n ad cf M') H1 → H.size ≤ H1.size → (∀ q : Nat, q < H.size → ¬ GA n ad q → H1[q]? = H[q]?) → va_S A H0 H1 locs1 → W p l e R s m args below meth c H1 locs1 cells slots Q (F0 m (pc + 3) ls (v.toList ++ rest))) : W p l e R s m args below meth c H locs cells slots Q (F0 m pc ls st0) := by
  intro T hT X
  obtain ⟨v, st₀, t, T', L, h0, X', hL, e1, e2, ⟨⟨v', M', hv, hp, hb⟩, hz, hk⟩, st⟩ := hr T hT X
  cases hv
  rw [h0] at hz hk
  obtain ⟨t2, a1, b1⟩ := kk v M' T'.heap (locs ++ L) hp (by rw [e1]; exact hb) (by rw [e1]; exact hz) (fun q h1 h2 => by rw [e1]; exact hk q h1 h2)
    ⟨Nat.le_trans hS.1 (by rw [e1]; exact hz), fun q h1 h2 => by rw [e1, hk q (Nat.lt_of_lt_of_le h1 hS.1) (fun z => h2 (hA q z))]; exact hS.2.1 q h1 h2, fun q hq => by
      rcases List.mem_append.mp hq with h | h
      · exact hS.2.2 q h
      · exact hA _ (hL q h)⟩ T' rfl X'
  exact ⟨t2, st t2 a1, b1⟩
theorem c_blind {av : List Value} (hN : ∀ (U V : State), U.vm = V.vm → NX U → NX V) : FrameBlind (va_Pc av (fun U => va_P D clsA (gw n ad cf M) U.heap ∧ va_K D clsA tys U ∧ NX U)) := fun a U g mk q => by
  obtain ⟨q0, qP, qK, qN⟩ := q
  exact ⟨q0, qP, va_K.moved (u := U) (U := U.calling g mk a) (Vm.Alike.refl U.vm) qK, hN U (U.calling g mk a) rfl qN⟩
/-- a call of an instance method -/
theorem c_V (hx : p.tables.exec = Jvm.exec) (hb : c.code = cc) (hml : c.maxLocals = nL) (hown : s.vm.findClass own = some m.cls) (hg : ∀ w ∈ GW, w.before args s = true) (hK : va_K D clsA tys s) (hN : ∀ (U V : State), U.vm = V.vm → NX U → NX V) (hNs : ∀ U : State, s.WarmedH U.vm → NX U) (hA : ∀ q, GA n ad q → A q) (hP : va_P D clsA (gw n ad cf M) H) (hS : va_S A H0 H locs)
    (k0 : Nat) (hM : MC l D tys n ad cf y bc mL ret fr lo NX (.ref (ad k0) :: As) M post) (hk0 : k0 < n) {ci : Nat} {fs : List Value} {T : u_T} {N : Nat} (he : cf k0 (M k0) = .inr (ci, fs)) (hc : clsA[ci]? = some (y.cls, T, N))
    (w1 : Cond.methodLink own index y ∈ GW) (w2 : Cond.instanceMethod y ∈ GW) (w3 : Cond.selects y.cls y y ∈ GW) (w4 : Cond.initialized y.cls ∈ GW) (w5 : Cond.code y bc mL ret ∈ GW)
    (np : Nat) (hnp : As.length = np) (hd : y.cls ≠ "java/lang/invoke/MethodHandle" ∧ y.cls ≠ "java/lang/invoke/VarHandle" ∧ (parseMethodDescriptor y.desc).map (fun d => d.parameters.length) = some np) (hR : fr + 1 ≤ R.frames ∧ 8 + (mL + 11) + lo ≤ R.locals ∧ cells ≤ R.cells ∧ slots ≤ R.slots) {st0 : List Value} (hst : st0 = As.reverse ++ .ref (ad k0) :: rest) (hsz : ls.size = nL) (hW : (rest.map fun v => v.category).sum ≤ 8) (hdg : decode cc pc = .ok (.invokevirtual index, 3))
    (kk : ∀ (v : Option Value) (M' : PM) (H1 : Heap) (locs1 : List Loc), post v M' → va_P D clsA (gw n ad cf M') H1 → H.size ≤ H1.size → (∀ q : Nat, q < H.size → ¬ GA n ad q → H1[q]? = H[q]?) → va_S A H0 H1 locs1 → W p l e R s m args below meth c H1 locs1 cells slots Q (F0 m (pc + 3) ls (v.toList ++ rest))) : W p l e R s m args below meth c H locs cells slots Q (F0 m pc ls st0) := by
  subst hst
  subst hnp
  have hts : ∀ w ∈ (Cond.tt :: GW), w.before args s = true := fun w h => by
    rcases List.mem_cons.mp h with rfl | h
    · rfl
    · exact hg w h
  refine c_go (va_runV (As := As) (rest := rest) (Ts := Cond.tt :: GW) ⟨hx, hb, hml, hown, hts⟩ hM (cwV As.length hts (GW_V w1 w2 w3 w4 w5) rfl rfl rfl ⟨rfl, hd⟩ ⟨hR.1, hR.2.1⟩) ⟨c_blind hN, va_recv hK hP hc (gw_at hk0 he), fun U hU hW => ⟨rfl, by rw [hU]; exact hP, va_K.moved hW.alike hK, hNs U hW⟩⟩ rfl rfl hsz rfl (lv_room hW) hdg ⟨hR.2.2.1, hR.2.2.2⟩) hA hS kk
/-- the ends -/
theorem r_i (hx : p.tables.exec = Jvm.exec) (hb : c.code = cc) (hr : meth.sig.returnType = some .int) (hlocks : meth.locks = false) {v : Int32} (hP : va_P D clsA (gw n ad cf M) H) (hS : va_S (GA n ad) s.heap H locs) (hq : post (some (.int v)) M) (hdg : decode cc pc = .ok (.ireturn, 1)) : W p l e R s m args below meth c H locs cells slots (MQ below (GQ D n ad cf post) args s cells slots (GA n ad)) (F0 m pc ls [.int v]) :=
  W.iret (v := v) hx hb hr (fun t ht _ => ⟨⟨some (.int v), M, rfl, hq, by rw [ht]; exact hP⟩, hS.F ht⟩) hS.2.2 hdg hlocks
theorem r_z (hx : p.tables.exec = Jvm.exec) (hb : c.code = cc) {ty : FieldType} (hr : meth.sig.returnType = some ty) (hlocks : meth.locks = false) {v : Int32} (hn : narrow ty (.int v) = .int v) (hP : va_P D clsA (gw n ad cf M) H) (hS : va_S (GA n ad) s.heap H locs) (hq : post (some (.int v)) M) (hdg : decode cc pc = .ok (.ireturn, 1)) : W p l e R s m args below meth c H locs cells slots (MQ below (GQ D n ad cf post) args s cells slots (GA n ad)) (F0 m pc ls [.int v]) :=
  W.zret (v := v) hx hb hr hn (fun t ht _ => ⟨⟨some (.int v), M, rfl, hq, by rw [ht]; exact hP⟩, hS.F ht⟩) hS.2.2 hdg hlocks
theorem r_a (hx : p.tables.exec = Jvm.exec) (hb : c.code = cc) {C : String} (hr : meth.sig.returnType = some (.object C)) (hlocks : meth.locks = false) {v : Nat} (hP : va_P D clsA (gw n ad cf M) H) (hS : va_S (GA n ad) s.heap H locs) (hq : post (some (.ref v)) M) (hdg : decode cc pc = .ok (.areturn, 1)) : W p l e R s m args below meth c H locs cells slots (MQ below (GQ D n ad cf post) args s cells slots (GA n ad)) (F0 m pc ls [.ref v]) :=
  W.aret (v := .ref v) hx hb hr (Or.inl ⟨C, rfl⟩) (Or.inr ⟨v, rfl⟩) (fun t ht _ => ⟨⟨some (.ref v), M, rfl, hq, by rw [ht]; exact hP⟩, hS.F ht⟩) hS.2.2 hdg hlocks
theorem bI_n (t : Bool) : narrow .boolean (.int (bI t)) = .int (bI t) := by cases t <;> rfl
theorem r_v (hx : p.tables.exec = Jvm.exec) (hb : c.code = cc) (hr : meth.sig.returnType = none) (hlocks : meth.locks = false) (hP : va_P D clsA (gw n ad cf M) H) (hS : va_S (GA n ad) s.heap H locs) (hq : post none M) (hdg : decode cc pc = .ok (.return_, 1)) : W p l e R s m args below meth c H locs cells slots (MQ below (GQ D n ad cf post) args s cells slots (GA n ad)) (F0 m pc ls []) :=
  W.vret hx hb hr (fun t ht _ => ⟨⟨none, M, rfl, hq, by rw [ht]; exact hP⟩, hS.F ht⟩) hS.2.2 hdg hlocks
end GC
section GN
variable {p : Program} {l : Launch} {e : Env} {R : Room} {s : State} {m : MethodId} {args : Array Value} {below : List Frame} {meth : Method} {c : Code} {H : Heap} {locs : List Loc} {cells slots : Nat} {Q : State → Prop}
variable {cc : ByteArray} {pc : Nat} {ls : Array Slot} {rest : List Value}
theorem n_top {x y : Int32} (h : x = y) (kk : W p l e R s m args below meth c H locs cells slots Q (F0 m pc ls (.int y :: rest))) : W p l e R s m args below meth c H locs cells slots Q (F0 m pc ls (.int x :: rest)) := by rw [h]; exact kk
theorem n_if0 (hx : p.tables.exec = Jvm.exec) (hb : c.code = cc) {a : Nat} {off : Int} {tgt : Nat} (hdg : decode cc pc = .ok (.ifCond .eq off, 3)) (ht : (pc : Int) + off = (tgt : Int)) (ha : a < 2 ^ 31)
    (kt : a = 0 → W p l e R s m args below meth c H locs cells slots Q (F0 m tgt ls rest)) (kf : a ≠ 0 → W p l e R s m args below meth c H locs cells slots Q (F0 m (pc + 3) ls rest)) : W p l e R s m args below meth c H locs cells slots Q (F0 m pc ls (.int (nI a) :: rest)) :=
  lv_if_eq hx hb hdg ht (fun h => kt (nI_inj ha (by decide) h)) (fun h => kf (fun q => h (by rw [q]; rfl)))
theorem n_ifn0 (hx : p.tables.exec = Jvm.exec) (hb : c.code = cc) {a : Nat} {off : Int} {tgt : Nat} (hdg : decode cc pc = .ok (.ifCond .ne off, 3)) (ht : (pc : Int) + off = (tgt : Int)) (ha : a < 2 ^ 31)
    (kt : a ≠ 0 → W p l e R s m args below meth c H locs cells slots Q (F0 m tgt ls rest)) (kf : a = 0 → W p l e R s m args below meth c H locs cells slots Q (F0 m (pc + 3) ls rest)) : W p l e R s m args below meth c H locs cells slots Q (F0 m pc ls (.int (nI a) :: rest)) :=
  lv_if_ne hx hb hdg ht (fun h => kt (fun q => h (by rw [q]; rfl))) (fun h => kf (nI_inj ha (by decide) h))
theorem n_dec (hx : p.tables.exec = Jvm.exec) (hb : c.code = cc) {i nL k a : Nat} {lv lv' : List (Nat × Value)} (hdg : decode cc pc = .ok (.iinc i (-1), 3)) (h : lv_has ls nL lv) (hk : lv[k]? = some (i, .int (nI a))) (ha : 0 < a) (hn : i < nL) (hl : (i, Value.int (nI (a - 1))) :: lv.filter (fun q => !(q.1 == i) && !(q.1 + 1 == i && q.2.category == 2)) = lv')
    (kk : ∀ ls' : Array Slot, lv_has ls' nL lv' → W p l e R s m args below meth c H locs cells slots Q (F0 m (pc + 3) ls' rest)) : W p l e R s m args below meth c H locs cells slots Q (F0 m pc ls rest) :=
  lv_iinc hx hb hdg h hk (sb_m1 ha) hn hl kk
theorem o_lt (hx : p.tables.exec = Jvm.exec) (hb : c.code = cc) {o : Option Nat} {off : Int} {tgt : Nat} (hdg : decode cc pc = .ok (.ifCond .lt off, 3)) (ht : (pc : Int) + off = (tgt : Int)) (ho : ∀ k, o = some k → k < 2 ^ 31)
    (kt : o = none → W p l e R s m args below meth c H locs cells slots Q (F0 m tgt ls rest)) (kf : ∀ k, o = some k → W p l e R s m args below meth c H locs cells slots Q (F0 m (pc + 3) ls rest)) : W p l e R s m args below meth c H locs cells slots Q (F0 m pc ls (.int (oI o) :: rest)) :=
  lv_if_lt hx hb hdg ht (fun h => kt ((oI_neg ho).mp h)) (fun h => by
    cases o with
    | none => exact absurd ((oI_neg ho).mpr rfl) h
    | some k => exact kf k rfl)
theorem o_ge (hx : p.tables.exec = Jvm.exec) (hb : c.code = cc) {o : Option Nat} {off : Int} {tgt : Nat} (hdg : decode cc pc = .ok (.ifCond .ge off, 3)) (ht : (pc : Int) + off = (tgt : Int)) (ho : ∀ k, o = some k → k < 2 ^ 31)
    (kt : ∀ k, o = some k → W p l e R s m args below meth c H locs cells slots Q (F0 m tgt ls rest)) (kf : o = none → W p l e R s m args below meth c H locs cells slots Q (F0 m (pc + 3) ls rest)) : W p l e R s m args below meth c H locs cells slots Q (F0 m pc ls (.int (oI o) :: rest)) :=
  lv_if_ge hx hb hdg ht (fun h => by
    cases o with
    | none => exact absurd h (by decide)
    | some k => exact kt k rfl) (fun h => kf (by
    cases o with
    | none => rfl
    | some k => exact absurd (nI_pos' (ho k rfl)) h))
end GN
/-! ===== the reference's picture: 13 cells ===== -/
def cfM (cI cB : ClassId) (ad : Nat → Nat) (k : Nat) (r : Nat → Int32) : va_E := match k with
  | 0 => .inr (8, [.int (r 0), .ref (ad 1), .int (r 2), .ref (ad 2), .ref (ad 3), .int (r 5), .ref (ad 4), .ref (ad 5), .ref (ad 6), .ref (ad 7), .int (r 10), .ref (ad 8), .int (r 12), .ref (ad 9), .int (r 14), .ref (ad 10), .ref (ad 11), .int (r 17), .ref (ad 12)])
  | 1 => .inl (cB, 24, .inl r)
  | 2 => .inl (cB, 1440, .inl r)
  | 3 => .inl (cI, 60, .inl r)
  | 4 => .inl (cI, 60, .inl r)
  | 5 => .inl (cI, 60, .inl r)
  | 6 => .inl (cI, 60, .inl r)
  | 7 => .inl (cI, 120, .inl r)
  | 8 => .inl (cI, 40, .inl r)
  | 9 => .inl (cB, 80, .inl r)
  | 10 => .inl (cI, 3, .inl r)
  | 11 => .inl (cB, 64, .inl r)
  | _ => .inl (cI, 25, .inl r)
abbrev tysM (cI cB : ClassId) : List (ClassId × FieldType) := [(cI, .int), (cB, .byte)]
def MM (l : Launch) (D : va_G) (cI cB : ClassId) (ad : Nat → Nat) (y : MethodName) (b : ByteArray) (mL : Nat) (ret : Option FieldType) (fr lo : Nat) (av : List Value) (M : PM) (post : Option Value → PM → Prop) : Prop :=
  MC l D (tysM cI cB) 13 ad (cfM cI cB ad) y b mL ret fr lo (fun _ => True) av M post
/-- the names in the reference's picture: n of them, their sizes, characters, and the spaces of which they are shorts -/
def RN (M : PM) (n : Nat) (len : Nat → Nat) (ch : Nat → Nat → Nat) (sp : Nat → Option Nat) : Prop :=
  n ≤ 60 ∧ M 0 5 = nI n ∧ (∀ k, k < n → 1 ≤ len k ∧ len k ≤ 24 ∧ M 3 k = nI (len k)) ∧ (∀ k, k < n → M 4 k = oI (sp k)) ∧ (∀ k j, k < n → sp k = some j → j < n) ∧ ∀ k i, k < n → i < len k → 33 ≤ ch k i ∧ ch k i ≤ 126 ∧ M 2 (24 * k + i) = nI (ch k i)
/-- the first place below n where P holds -/
def Fst (P : Nat → Prop) (n : Nat) (o : Option Nat) : Prop := match o with
  | none => ∀ k, k < n → ¬ P k
  | some k => k < n ∧ P k ∧ ∀ j, j < k → ¬ P j
theorem Fst.uniq {P : Nat → Prop} {n : Nat} {o o' : Option Nat} (h : Fst P n o) (h' : Fst P n o') : o = o' := by
  cases o with
  | none => cases o' with
    | none => rfl
    | some k => exact absurd h'.2.1 (h k h'.1)
  | some k => cases o' with
    | none => exact absurd h.2.1 (h' k h.1)
    | some k' =>
      rcases Nat.lt_trichotomy k k' with q | q | q
      · exact absurd h.2.1 (h'.2.2 k q)
      · rw [q]
      · exact absurd h'.2.1 (h.2.2 k' q)
theorem Fst.ex (P : Nat → Prop) (n : Nat) : ∃ o, Fst P n o := by
  induction n with
  | zero => exact ⟨none, fun k h => absurd h (Nat.not_lt_zero k)⟩
  | succ n ih =>
    obtain ⟨o, ho⟩ := ih
    cases o with
    | some k => exact ⟨some k, Nat.lt_succ_of_lt ho.1, ho.2⟩
    | none =>
      by_cases h : P n
      · exact ⟨some n, Nat.lt_succ_self n, h, ho⟩
      · refine ⟨none, fun k hk => ?_⟩
        rcases Nat.lt_succ_iff_lt_or_eq.mp hk with q | q
        · exact ho k q
        · rw [q]; exact h
theorem Fst.is {P : Nat → Prop} {n : Nat} {o : Option Nat} (h : Fst P n o) {k : Nat} (hk : k < n) (hp : P k) (hb : ∀ j, j < k → ¬ P j) : o = some k := h.uniq (o' := some k) ⟨hk, hp, hb⟩
theorem Fst.no {P : Nat → Prop} {n : Nat} {o : Option Nat} (h : Fst P n o) (hb : ∀ j, j < n → ¬ P j) : o = none := h.uniq (o' := none) hb
theorem nb8 : ∀ c, c < 128 → (nI c).toInt8.toInt32 = nI c := by decide +kernel
theorem nbb : ∀ c, c < 128 → vp_nar .byte (nI c) = nI c := by decide +kernel
theorem nbc : ∀ c, c < 128 → vp_nar .char (nI c) = nI c := by decide +kernel
theorem nb16 : ∀ c, c < 128 → ((nI c).toUInt32 % 65536).toInt32 = nI c := by decide +kernel
/-- the reference's scratch may differ -/
def SX (M M' : PM) : Prop := ∀ a b, a ≠ 11 → a ≠ 12 → ¬ (a = 0 ∧ (b = 17 ∨ b = 0)) → M' a b = M a b
theorem SX.rf (M : PM) : SX M M := fun _ _ _ _ _ => rfl
theorem SX.tr {M M' M'' : PM} (h : SX M M') (h' : SX M' M'') : SX M M'' := fun a b h1 h2 h3 => (h' a b h1 h2 h3).trans (h a b h1 h2 h3)
theorem RN.sx {M M' : PM} {n : Nat} {len : Nat → Nat} {ch : Nat → Nat → Nat} {sp : Nat → Option Nat} (h : RN M n len ch sp) (hs : SX M M') : RN M' n len ch sp := by
  obtain ⟨h1, h2, h3, h4, h5, h6⟩ := h
  refine ⟨h1, ?_, fun k hk => ?_, fun k hk => ?_, h5, fun k i hk hi => ?_⟩
  · rw [hs 0 5 (by decide) (by decide) (by decide)]; exact h2
  · rw [hs 3 k (by decide) (by decide) (by omega)]; exact h3 k hk
  · rw [hs 4 k (by decide) (by decide) (by omega)]; exact h4 k hk
  · rw [hs 2 _ (by decide) (by decide) (by omega)]; exact h6 k i hk hi
/-- what the reference has made: sl characters sc -/
def MK (M : PM) (sl : Nat) (sc : Nat → Nat) : Prop := sl ≤ 64 ∧ M 0 17 = nI sl ∧ ∀ i, i < sl → sc i < 128 ∧ M 11 i = nI (sc i)
def sameT (len : Nat → Nat) (ch : Nat → Nat → Nat) (sl : Nat) (sc : Nat → Nat) (k : Nat) : Prop := len k = sl ∧ ∀ i, i < sl → ch k i = sc i
end
section
/-! ===== the reference: what its pictures say ===== -/
theorem MK.begin (M : PM) (sc : Nat → Nat) : MK (pu M 0 17 0) 0 sc := ⟨by omega, by rw [pu_s]; rfl, fun i hi => absurd hi (Nat.not_lt_zero i)⟩
theorem SX.begin (M : PM) : SX M (pu M 0 17 0) := fun a b h1 h2 h3 => by
  rw [pu_eq, if_neg (by rintro ⟨q1, q2⟩; exact h3 ⟨q1, Or.inl q2⟩)]
theorem MK.add {M : PM} {sl : Nat} {sc : Nat → Nat} (h : MK M sl sc) (hs : sl < 64) (hc : sc sl < 128) : MK (pu (pu M 0 17 (nI (sl + 1))) 11 sl (nI (sc sl))) (sl + 1) sc := by
  refine ⟨by omega, ?_, fun i hi => ?_⟩
  · rw [pu_k _ _ _ _ _ (by decide), pu_s]
  · rcases Nat.lt_succ_iff_lt_or_eq.mp hi with q | q
    · rw [pu_j _ _ _ _ _ (by omega), pu_k _ _ _ _ _ (by decide)]
      exact h.2.2 i q
    · subst q
      exact ⟨hc, pu_s _ _ _ _⟩
theorem SX.add (M : PM) (sl : Nat) (x y : Int32) : SX M (pu (pu M 0 17 x) 11 sl y) := fun a b h1 h2 h3 => by
  rw [pu_k _ _ _ _ _ h1, pu_eq, if_neg (by rintro ⟨q1, q2⟩; exact h3 ⟨q1, Or.inl q2⟩)]
theorem SX.thr (M : PM) (x : Int32) : SX M (pu M 0 0 x) := fun a b h1 h2 h3 => by
  rw [pu_eq, if_neg (by rintro ⟨q1, q2⟩; exact h3 ⟨q1, Or.inr q2⟩)]
theorem MK.thr {M : PM} {sl : Nat} {sc : Nat → Nat} (h : MK M sl sc) (x : Int32) : MK (pu M 0 0 x) sl sc := ⟨h.1, by rw [pu_j _ _ _ _ _ (by decide)]; exact h.2.1, fun i hi => by rw [pu_k _ _ _ _ _ (by decide)]; exact h.2.2 i hi⟩
/-- the tape -/
def RT (M : PM) (tl : Nat) (tc : Nat → Nat) : Prop := tl ≤ 24 ∧ M 0 2 = nI tl ∧ ∀ i, i < tl → 33 ≤ tc i ∧ tc i ≤ 126 ∧ M 1 i = nI (tc i)
theorem RT.sx {M M' : PM} {tl : Nat} {tc : Nat → Nat} (h : RT M tl tc) (hs : SX M M') : RT M' tl tc :=
  ⟨h.1, by rw [hs 0 2 (by decide) (by decide) (by decide)]; exact h.2.1, fun i hi => by rw [hs 1 i (by decide) (by decide) (by omega)]; exact h.2.2 i hi⟩
/-- a name more: its characters, its size, no space, no uses, standing for none -/
def CMd (M M' : PM) (n sl : Nat) (sc : Nat → Nat) : Prop := (∀ i, i < sl → M' 2 (24 * n + i) = nI (sc i)) ∧ M' 3 n = nI sl ∧ M' 4 n = -1 ∧ M' 5 n = 0 ∧ M' 6 n = -1 ∧ M' 0 5 = nI (n + 1) ∧
  ∀ a b, ¬ (a = 2 ∧ 24 * n ≤ b ∧ b < 24 * n + sl) → ¬ ((a = 3 ∨ a = 4 ∨ a = 5 ∨ a = 6) ∧ b = n) → ¬ (a = 0 ∧ b = 5) → M' a b = M a b
theorem rng {x : Int32} {a b : Nat} (hb : b < 2 ^ 31) (h1 : ¬ x < nI a) (h2 : x ≤ nI b) (ha : a ≤ b) : ∃ c, a ≤ c ∧ c ≤ b ∧ x = nI c := by
  have e1 := nI_toInt (n := a) (by omega)
  have e2 := nI_toInt hb
  have h0 : ¬ x < 0 := fun h => h1 (by
    rw [Int32.lt_iff_toInt_lt] at h ⊢
    rw [e1]
    have : (0 : Int32).toInt = 0 := rfl
    omega)
  obtain ⟨j, hj, rfl⟩ := nI_of h0
  refine ⟨j, ?_, (nI_leI hj hb).mp h2, rfl⟩
  exact Nat.le_of_not_lt fun q => h1 ((nI_ltI hj (by omega)).mpr q)
theorem no_f {n a : Nat} (h : a < n) : (false = true) ↔ ¬ ∃ j, j < n ∧ nI a = nI j := ⟨fun h => (by cases h), fun q => absurd ⟨a, h, rfl⟩ q⟩
theorem no_t {n : Nat} {x : Int32} (h : ¬ ∃ j, j < n ∧ x = nI j) : (true = true) ↔ ¬ ∃ j, j < n ∧ x = nI j := ⟨fun _ => h, fun _ => rfl⟩
theorem decI (x : Int32) : x + Int32.ofInt (-1) = x - 1 := by rw [Int32.sub_eq_add_neg]; rfl
theorem nI_p0 {i : Nat} (hi : i < 2 ^ 31) : nI i - 1 < 0 ↔ i = 0 := by
  cases i with
  | zero => exact ⟨fun _ => rfl, fun _ => by decide⟩
  | succ j =>
    rw [nI_pred]
    exact ⟨fun h => absurd h (nI_pos (by omega)), fun h => by omega⟩
theorem RT.thr {M : PM} {tl : Nat} {tc : Nat → Nat} (h : RT M tl tc) (x : Int32) : RT (pu M 0 0 x) tl tc := h.sx (SX.thr M x)
theorem RN.thr {M : PM} {n : Nat} {len : Nat → Nat} {ch : Nat → Nat → Nat} {sp : Nat → Option Nat} (h : RN M n len ch sp) (x : Int32) : RN (pu M 0 0 x) n len ch sp := h.sx (SX.thr M x)
def RU (M : PM) (n : Nat) (us : Nat → Nat) : Prop := ∀ k, k < n → us k < 2 ^ 30 ∧ M 5 k = nI (us k)
def RS (M : PM) (n : Nat) (st : Nat → Option Nat) : Prop := (∀ k, k < n → M 6 k = oI (st k)) ∧ ∀ k j, k < n → st k = some j → j < n
def RW (M : PM) (n rc : Nat) (rw_ : Nat → Nat) : Prop := rc ≤ 40 ∧ M 0 10 = nI rc ∧ ∀ j, j < 3 * rc → rw_ j < n ∧ M 7 j = nI (rw_ j)
def RR (M : PM) (n nc : Nat) (rf rt : Nat → Nat) : Prop := nc ≤ 20 ∧ M 0 12 = nI nc ∧ ∀ i, i < nc → rf i < n ∧ rt i < n ∧ M 8 (2 * i) = nI (rf i) ∧ M 8 (2 * i + 1) = nI (rt i)
def RP (M : PM) (pl : Nat) (pc9 : Nat → Nat) : Prop := pl ≤ 80 ∧ M 0 14 = nI pl ∧ ∀ i, i < pl → 33 ≤ pc9 i ∧ pc9 i ≤ 126 ∧ M 9 i = nI (pc9 i)
/-- what a name has become, and was -/
def nowF (rf rt : Nat → Nat) (x : Nat) : Nat → Nat
  | 0 => x
  | k + 1 => if rf k = nowF rf rt x k then rt k else nowF rf rt x k
def wasF (rf rt : Nat → Nat) : Nat → Nat → Nat
  | 0, x => x
  | i + 1, x => wasF rf rt i (if rt i = x then rf i else x)
theorem oI_inj {o o' : Option Nat} (h : ∀ k, o = some k → k < 2 ^ 31) (h' : ∀ k, o' = some k → k < 2 ^ 31) : oI o = oI o' ↔ o = o' := by
  refine ⟨fun e => ?_, fun e => by rw [e]⟩
  cases o with
  | none => cases o' with
    | none => rfl
    | some k => exact absurd e.symm (nI_m1 (h' k rfl))
  | some k => cases o' with
    | none => exact absurd e (nI_m1 (h k rfl))
    | some k' => rw [nI_inj (h k rfl) (h' k' rfl) e]
section GO
variable {p : Program} {l : Launch} {e : Env} {R : Room} {s : State} {m : MethodId} {args : Array Value} {below : List Frame} {meth : Method} {c : Code} {H : Heap} {locs : List Loc} {cells slots : Nat} {Q : State → Prop}
variable {cc : ByteArray} {pc : Nat} {ls : Array Slot} {rest : List Value}
theorem oo_eq (hx : p.tables.exec = Jvm.exec) (hb : c.code = cc) {a b : Option Nat} {off : Int} {tgt : Nat} (hdg : decode cc pc = .ok (.if_icmp .eq off, 3)) (ht : (pc : Int) + off = (tgt : Int)) (ha : ∀ k, a = some k → k < 2 ^ 31) (hb' : ∀ k, b = some k → k < 2 ^ 31)
    (kt : a = b → W p l e R s m args below meth c H locs cells slots Q (F0 m tgt ls rest)) (kf : a ≠ b → W p l e R s m args below meth c H locs cells slots Q (F0 m (pc + 3) ls rest)) : W p l e R s m args below meth c H locs cells slots Q (F0 m pc ls (.int (oI b) :: .int (oI a) :: rest)) :=
  lv_icmp_eq hx hb hdg ht (fun h => kt ((oI_inj ha hb').mp h)) (fun h => kf (fun q => h ((oI_inj ha hb').mpr q)))
theorem oo_ne (hx : p.tables.exec = Jvm.exec) (hb : c.code = cc) {a b : Option Nat} {off : Int} {tgt : Nat} (hdg : decode cc pc = .ok (.if_icmp .ne off, 3)) (ht : (pc : Int) + off = (tgt : Int)) (ha : ∀ k, a = some k → k < 2 ^ 31) (hb' : ∀ k, b = some k → k < 2 ^ 31)
    (kt : a ≠ b → W p l e R s m args below meth c H locs cells slots Q (F0 m tgt ls rest)) (kf : a = b → W p l e R s m args below meth c H locs cells slots Q (F0 m (pc + 3) ls rest)) : W p l e R s m args below meth c H locs cells slots Q (F0 m pc ls (.int (oI b) :: .int (oI a) :: rest)) :=
  lv_icmp_ne hx hb hdg ht (fun h => kt (fun q => h ((oI_inj ha hb').mpr q))) (fun h => kf ((oI_inj ha hb').mp h))
end GO
theorem ob_some {a : Nat} (h : a < 2 ^ 31) : ∀ k, some a = some k → k < 2 ^ 31 := fun k e => by cases e; exact h
theorem ob_none : ∀ k, (none : Option Nat) = some k → k < 2 ^ 31 := fun k e => by cases e
/-- a goes on behind b -/
def goesT (len : Nat → Nat) (ch : Nat → Nat → Nat) (a b : Nat) : Prop := len b < len a ∧ ∀ i, i < len b → ch a i = ch b i
def isSp (n : Nat) (sp : Nat → Option Nat) (k : Nat) : Prop := ∃ j, j < n ∧ sp j = some k
def spC (n : Nat) (len : Nat → Nat) (ch : Nat → Nat → Nat) (sp : Nat → Option Nat) (a k : Nat) : Prop := goesT len ch a k ∧ isSp n sp k
/-- the one of the greatest key, of these the first -/
def Best (P : Nat → Prop) (key : Nat → Nat) (n : Nat) (o : Option Nat) : Prop := match o with
  | none => ∀ k, k < n → ¬ P k
  | some b => b < n ∧ P b ∧ (∀ j, j < n → P j → key j ≤ key b) ∧ ∀ j, j < b → P j → key j < key b
theorem lt_S {P : Nat → Prop} {k : Nat} (h : ∀ j, j < k → P j) (hk : P k) : ∀ j, j < k + 1 → P j := fun j hj => by
  rcases Nat.lt_succ_iff_lt_or_eq.mp hj with q | q
  · exact h j q
  · rw [q]; exact hk
theorem Best.skip {P : Nat → Prop} {key : Nat → Nat} {k : Nat} {o : Option Nat} (h : Best P key k o) (hk : ¬ P k) : Best P key (k + 1) o := by
  cases o with
  | none => exact lt_S h hk
  | some b => exact ⟨Nat.lt_succ_of_lt h.1, h.2.1, lt_S h.2.2.1 (fun q => absurd q hk), h.2.2.2⟩
theorem Best.take {P : Nat → Prop} {key : Nat → Nat} {k : Nat} {o : Option Nat} (h : Best P key k o) (hk : P k) (hb : ∀ b, o = some b → key b < key k) : Best P key (k + 1) (some k) := by
  have h1 : ∀ j, j < k → P j → key j < key k := fun j hj hp => by
    cases o with
    | none => exact absurd hp (h j hj)
    | some b => exact Nat.lt_of_le_of_lt (h.2.2.1 j hj hp) (hb b rfl)
  exact ⟨Nat.lt_succ_self k, hk, lt_S (fun j hj hp => Nat.le_of_lt (h1 j hj hp)) (fun _ => Nat.le_refl _), h1⟩
theorem Best.stay {P : Nat → Prop} {key : Nat → Nat} {k b : Nat} (h : Best P key k (some b)) (hb : key k ≤ key b) : Best P key (k + 1) (some b) :=
  ⟨Nat.lt_succ_of_lt h.1, h.2.1, lt_S h.2.2.1 (fun _ => hb), h.2.2.2⟩
theorem Best.uniq {P : Nat → Prop} {key : Nat → Nat} {n : Nat} {o o' : Option Nat} (h : Best P key n o) (h' : Best P key n o') : o = o' := by
  cases o with
  | none => cases o' with
    | none => rfl
    | some k => exact absurd h'.2.1 (h k h'.1)
  | some k => cases o' with
    | none => exact absurd h.2.1 (h' k h.1)
    | some k' =>
      have e1 := h.2.2.1 k' h'.1 h'.2.1
      have e2 := h'.2.2.1 k h.1 h.2.1
      rcases Nat.lt_trichotomy k k' with q | q | q
      · have := h'.2.2.2 k q h.2.1; omega
      · rw [q]
      · have := h.2.2.2 k' q h'.2.1; omega
theorem Best.ex (P : Nat → Prop) (key : Nat → Nat) (n : Nat) : ∃ o, Best P key n o := by
  induction n with
  | zero => exact ⟨none, fun k h => absurd h (Nat.not_lt_zero k)⟩
  | succ n ih =>
    obtain ⟨o, ho⟩ := ih
    by_cases hp : P n
    · cases o with
      | none => exact ⟨some n, ho.take hp (fun b e => by cases e)⟩
      | some b =>
        by_cases hk : key b < key n
        · exact ⟨some n, ho.take hp (fun b' e => by cases e; exact hk)⟩
        · exact ⟨some b, ho.stay (by omega)⟩
    · exact ⟨o, ho.skip hp⟩
theorem Best.lt {P : Nat → Prop} {key : Nat → Nat} {n : Nat} {o : Option Nat} (h : Best P key n o) : ∀ k, o = some k → k < n := fun k e => by rw [e] at h; exact h.1
theorem Fst.lt {P : Nat → Prop} {n : Nat} {o : Option Nat} (h : Fst P n o) : ∀ k, o = some k → k < n := fun k e => by rw [e] at h; exact h.1
/-- the order of names -/
def ltT (len : Nat → Nat) (ch : Nat → Nat → Nat) (a b : Nat) : Prop := ∃ i, i ≤ len a ∧ i ≤ len b ∧ (∀ q, q < i → ch a q = ch b q) ∧ ((i = len a ∧ len a < len b) ∨ (i < len a ∧ i < len b ∧ ch a i < ch b i))
theorem ltT_at {len : Nat → Nat} {ch : Nat → Nat → Nat} {a b i : Nat} (h1 : i ≤ len a) (h2 : i ≤ len b) (hp : ∀ q, q < i → ch a q = ch b q) (hs : i = len a ∨ i = len b ∨ ch a i ≠ ch b i) : ltT len ch a b ↔ ((i = len a ∧ len a < len b) ∨ (i < len a ∧ i < len b ∧ ch a i < ch b i)) := by
  refine ⟨fun ⟨j, j1, j2, jp, jq⟩ => ?_, fun h => ⟨i, h1, h2, hp, h⟩⟩
  rcases Nat.lt_trichotomy j i with q | q | q
  · rcases jq with ⟨e, _⟩ | ⟨_, _, e⟩
    · omega
    · have := hp j q; omega
  · subst q; exact jq
  · have := jp i q
    rcases hs with e | e | e
    · omega
    · omega
    · exact absurd this e
theorem ltT_irr {len : Nat → Nat} {ch : Nat → Nat → Nat} (a : Nat) : ¬ ltT len ch a a := fun ⟨i, _, _, _, h⟩ => by rcases h with ⟨_, h⟩ | ⟨_, _, h⟩ <;> omega
theorem ltT_tr {len : Nat → Nat} {ch : Nat → Nat → Nat} {a b d : Nat} (h : ltT len ch a b) (h' : ltT len ch b d) : ltT len ch a d := by
  obtain ⟨i, i1, i2, ip, iq⟩ := h
  obtain ⟨j, j1, j2, jp, jq⟩ := h'
  rcases Nat.lt_trichotomy i j with q | q | q
  · refine ⟨i, i1, by omega, fun k hk => (ip k hk).trans (jp k (by omega)), ?_⟩
    have e := jp i q
    rcases iq with ⟨e1, e2⟩ | ⟨e1, e2, e3⟩
    · exact Or.inl ⟨e1, by omega⟩
    · exact Or.inr ⟨e1, by omega, by omega⟩
  · subst q
    refine ⟨i, i1, j2, fun k hk => (ip k hk).trans (jp k hk), ?_⟩
    rcases iq with ⟨e1, e2⟩ | ⟨e1, e2, e3⟩ <;> rcases jq with ⟨f1, f2⟩ | ⟨f1, f2, f3⟩
    · omega
    · exact Or.inl ⟨e1, by omega⟩
    · omega
    · exact Or.inr ⟨e1, f2, by omega⟩
  · refine ⟨j, by omega, j2, fun k hk => (ip k (by omega)).trans (jp k hk), ?_⟩
    have e := ip j q
    rcases jq with ⟨f1, f2⟩ | ⟨f1, f2, f3⟩
    · omega
    · exact Or.inr ⟨by omega, f2, by omega⟩
/-- a better short than b -/
def btS (len : Nat → Nat) (ch : Nat → Nat → Nat) (a b : Nat) : Prop := len a < len b ∨ (len a = len b ∧ ltT len ch a b)
theorem btS_tr {len : Nat → Nat} {ch : Nat → Nat → Nat} {a b d : Nat} (h : btS len ch a b) (h' : btS len ch b d) : btS len ch a d := by
  rcases h with h | ⟨h, g⟩ <;> rcases h' with h' | ⟨h', g'⟩
  · exact Or.inl (by omega)
  · exact Or.inl (by omega)
  · exact Or.inl (by omega)
  · exact Or.inr ⟨by omega, ltT_tr g g'⟩
theorem btS_irr {len : Nat → Nat} {ch : Nat → Nat → Nat} (a : Nat) : ¬ btS len ch a a := fun h => by
  rcases h with h | ⟨_, h⟩
  · omega
  · exact ltT_irr a h
/-- one with none better -/
def Top (P : Nat → Prop) (bt : Nat → Nat → Prop) (n : Nat) (o : Option Nat) : Prop := match o with
  | none => ∀ k, k < n → ¬ P k
  | some b => b < n ∧ P b ∧ ∀ j, j < n → P j → ¬ bt j b
theorem Top.skip {P : Nat → Prop} {bt : Nat → Nat → Prop} {k : Nat} {o : Option Nat} (h : Top P bt k o) (hk : ¬ P k) : Top P bt (k + 1) o := by
  cases o with
  | none => exact lt_S h hk
  | some b => exact ⟨Nat.lt_succ_of_lt h.1, h.2.1, lt_S h.2.2 (fun q => absurd q hk)⟩
theorem Top.take {P : Nat → Prop} {bt : Nat → Nat → Prop} {k : Nat} {o : Option Nat} (tr : ∀ a b d, bt a b → bt b d → bt a d) (irr : ∀ a, ¬ bt a a) (h : Top P bt k o) (hk : P k) (hb : ∀ b, o = some b → bt k b) : Top P bt (k + 1) (some k) := by
  refine ⟨Nat.lt_succ_self k, hk, lt_S (fun j hj hp hq => ?_) (fun _ => irr k)⟩
  cases o with
  | none => exact h j hj hp
  | some b => exact h.2.2 j hj hp (tr j k b hq (hb b rfl))
theorem Top.stay {P : Nat → Prop} {bt : Nat → Nat → Prop} {k b : Nat} (h : Top P bt k (some b)) (hb : ¬ bt k b) : Top P bt (k + 1) (some b) := ⟨Nat.lt_succ_of_lt h.1, h.2.1, lt_S h.2.2 (fun _ => hb)⟩
theorem Top.lt {P : Nat → Prop} {bt : Nat → Nat → Prop} {n : Nat} {o : Option Nat} (h : Top P bt n o) : ∀ k, o = some k → k < n := fun k e => by rw [e] at h; exact h.1
/-- no two names are the same -/
def DN (n : Nat) (len : Nat → Nat) (ch : Nat → Nat → Nat) : Prop := ∀ j k, j < n → k < n → len j = len k → (∀ i, i < len j → ch j i = ch k i) → j = k
theorem ltT_tot {len : Nat → Nat} {ch : Nat → Nat → Nat} (a b : Nat) (h1 : ¬ ltT len ch a b) (h2 : ¬ ltT len ch b a) : len a = len b ∧ ∀ i, i < len a → ch a i = ch b i := by
  obtain ⟨o, ho⟩ := Fst.ex (fun i => i = len a ∨ i = len b ∨ ch a i ≠ ch b i) (len a + 1)
  cases o with
  | none => exact absurd (Or.inl rfl) (ho (len a) (Nat.lt_succ_self _))
  | some i =>
    obtain ⟨g1, g2, g3⟩ := ho
    have hb : i ≤ len b := Nat.le_of_not_lt fun q => g3 (len b) q (Or.inr (Or.inl rfl))
    have hp : ∀ q, q < i → ch a q = ch b q := fun q hq => Decidable.of_not_not fun z => g3 q hq (Or.inr (Or.inr z))
    rw [ltT_at (i := i) (by omega) hb hp g2] at h1
    rw [ltT_at (i := i) hb (by omega) (fun q hq => (hp q hq).symm) (by omega)] at h2
    have : i = len a ∧ i = len b := by omega
    exact ⟨by omega, fun j hj => hp j (by omega)⟩
theorem Top.uniq {len : Nat → Nat} {ch : Nat → Nat → Nat} {P : Nat → Prop} {n : Nat} {o o' : Option Nat} (hd : DN n len ch) (h : Top P (btS len ch) n o) (h' : Top P (btS len ch) n o') : o = o' := by
  cases o with
  | none => cases o' with
    | none => rfl
    | some k => exact absurd h'.2.1 (h k h'.1)
  | some k => cases o' with
    | none => exact absurd h.2.1 (h' k h.1)
    | some k' =>
      have e1 := h.2.2 k' h'.1 h'.2.1
      have e2 := h'.2.2 k h.1 h.2.1
      have hl : len k = len k' := by
        rcases Nat.lt_trichotomy (len k) (len k') with q | q | q
        · exact absurd (Or.inl q) e2
        · exact q
        · exact absurd (Or.inl q) e1
      have := ltT_tot k k' (fun q => e2 (Or.inr ⟨hl, q⟩)) (fun q => e1 (Or.inr ⟨hl.symm, q⟩))
      rw [hd k k' h.1 h'.1 hl this.2]
end
section
set_option maxHeartbeats 4000000 in
set_option maxRecDepth 100000 in
theorem c_M_thrown (l : Launch) (D : va_G) (cI cB : ClassId) (ad : Nat → Nat) (hI : GI 13 ad) (M : PM) : MM l D cI cB ad y_M_thrown b_M_thrown 1 (some .int) 0 0 [.ref (ad (0))] M (fun v M' => v = some (.int (M 0 0)) ∧ M = M') := by
  refine MC.of (by decide) (Nat.le_of_ble_eq_true rfl) ?_
  intro p e s m below meth c ls hx hb hr hml hown hg hlocks hK hN hP hS hl
  have hown : s.vm.findClass R_M = some m.cls := hown
  have hl : lv_has ls 1 [(0, .ref (ad (0)))] := hl
  refine lv_aload_n hx hb d_M_thrown_0 rfl (lv_at hl 0 rfl) ?_
  refine g_get (C := R_M) (T := T_M) (N := 19) (ci := 8) (v := .int (M 0 0)) hx hb hg i_M hown hK hP 0 (by decide) rfl rfl 0 (by decide) (hg _ k_793) rfl d_M_thrown_1 ?_
  exact r_i hx hb hr hlocks hP hS (⟨rfl, rfl⟩) d_M_thrown_4

set_option maxHeartbeats 4000000 in
set_option maxRecDepth 100000 in
theorem c_M_refuses (l : Launch) (D : va_G) (cI cB : ClassId) (ad : Nat → Nat) (hI : GI 13 ad) (M : PM) (w : Nat) (hw : w < 100) : MM l D cI cB ad y_M_refuses b_M_refuses 2 (some .boolean) 0 0 [.ref (ad (0)), .int (nI (w))] M (fun v M' => v = some (.int (bI (decide (w ≠ 0)))) ∧ M' = pu M 0 0 (nI w)) := by
  refine MC.of (by decide) (Nat.le_of_ble_eq_true rfl) ?_
  intro p e s m below meth c ls hx hb hr hml hown hg hlocks hK hN hP hS hl
  have hown : s.vm.findClass R_M = some m.cls := hown
  have hl : lv_has ls 2 [(0, .ref (ad (0))), (1, .int (nI (w)))] := hl
  refine lv_aload_n hx hb d_M_refuses_0 rfl (lv_at hl 0 rfl) ?_
  refine lv_iload_n hx hb d_M_refuses_1 rfl (lv_at hl 1 rfl) ?_
  refine g_put (C := R_M) (T := T_M) (N := 19) (ci := 8) (v := (nI (w))) hx hb hg i_M ty_M t_M_ok n_M hown hK hI (fun _ h => h) hP hS 0 (by decide) rfl rfl 0 (by decide) (hg _ k_793) rfl (by decide +kernel) (Nat.le_of_ble_eq_true rfl) rfl d_M_refuses_2 (fun H locs hP hS => ?_)
  obtain ⟨M_1, eM_1⟩ : ∃ z : PM, z = (pu M 0 0 ((nI (w)))) := ⟨_, rfl⟩
  rw [← eM_1] at hP
  refine lv_iload_n hx hb d_M_refuses_5 rfl (lv_at hl 1 rfl) ?_
  refine n_if0 (a := w) (tgt := 13) hx hb d_M_refuses_6 (by decide) (by omega) (fun c_6 => ?_) (fun c_6 => ?_)
  · refine n_const (k := 0) hx hb d_M_refuses_13 (by decide) ?_
    exact r_z hx hb hr hlocks (rfl) hP hS (⟨bz0 (by simp [c_6]), eM_1⟩) d_M_refuses_14
  · refine n_const (k := 1) hx hb d_M_refuses_9 (by decide) ?_
    refine lv_goto (tgt := 14) hx hb d_M_refuses_10 (by decide) ?_
    exact r_z hx hb hr hlocks (rfl) hP hS (⟨bz1 (by simp [c_6]), eM_1⟩) d_M_refuses_14

set_option maxHeartbeats 4000000 in
set_option maxRecDepth 100000 in
theorem c_M_no (l : Launch) (D : va_G) (cI cB : ClassId) (ad : Nat → Nat) (hI : GI 13 ad) (M : PM) (n : Nat) (len : Nat → Nat) (ch : Nat → Nat → Nat) (sp : Nat → Option Nat) (hR : RN M n len ch sp) (x : Int32) (t : Bool) (ht : t = true ↔ ¬ ∃ j, j < n ∧ x = nI j) : MM l D cI cB ad y_M_no b_M_no 2 (some .boolean) 0 0 [.ref (ad (0)), .int (x)] M (fun v M' => v = some (.int (bI (t))) ∧ M = M') := by
  refine MC.of (by decide) (Nat.le_of_ble_eq_true rfl) ?_
  intro p e s m below meth c ls hx hb hr hml hown hg hlocks hK hN hP hS hl
  have hown : s.vm.findClass R_M = some m.cls := hown
  have hl : lv_has ls 2 [(0, .ref (ad (0))), (1, .int (x))] := hl
  have hn60 : n ≤ 60 := hR.1
  have hcase := pk_ix x (n := n) (by omega)
  refine lv_iload_n hx hb d_M_no_0 rfl (lv_at hl 1 rfl) ?_
  refine lv_if_lt (tgt := 12) hx hb d_M_no_1 (by decide) (fun c_1 => ?_) (fun c_1 => ?_)
  · have h9 : t = true := ht.mpr (fun ⟨j, hj, e⟩ => by rw [e] at c_1; exact nI_pos (by omega) c_1)
    refine n_const (k := 1) hx hb d_M_no_12 (by decide) ?_
    refine lv_goto (tgt := 17) hx hb d_M_no_13 (by decide) ?_
    exact r_z hx hb hr hlocks (rfl) hP hS (⟨bz1 (h9), rfl⟩) d_M_no_17
  · refine lv_iload_n hx hb d_M_no_4 rfl (lv_at hl 1 rfl) ?_
    refine lv_aload_n hx hb d_M_no_5 rfl (lv_at hl 0 rfl) ?_
    refine g_get (C := R_M) (T := T_M) (N := 19) (ci := 8) (v := .int (M 0 5)) hx hb hg i_M hown hK hP 0 (by decide) rfl rfl 5 (by decide) (hg _ k_798) rfl d_M_no_6 ?_
    refine n_top (y := (nI (n))) (hR.2.1) ?_
    refine lv_icmp_lt (tgt := 16) hx hb d_M_no_9 (by decide) (fun c_9 => ?_) (fun c_9 => ?_)
    · have h9 : t = false := b_f ht (fun h => h (by
        rcases hcase with q | q | q
        · exact absurd q c_1
        · exact absurd c_9 (Int32.not_lt.mpr q)
        · exact q))
      refine n_const (k := 0) hx hb d_M_no_16 (by decide) ?_
      exact r_z hx hb hr hlocks (rfl) hP hS (⟨bz0 (h9), rfl⟩) d_M_no_17
    · have h9 : t = true := ht.mpr (fun ⟨j, hj, e⟩ => by rw [e] at c_9; exact c_9 (nI_lt hj (by omega)))
      refine n_const (k := 1) hx hb d_M_no_12 (by decide) ?_
      refine lv_goto (tgt := 17) hx hb d_M_no_13 (by decide) ?_
      exact r_z hx hb hr hlocks (rfl) hP hS (⟨bz1 (h9), rfl⟩) d_M_no_17

set_option maxHeartbeats 4000000 in
set_option maxRecDepth 100000 in
theorem c_M_clashes (l : Launch) (D : va_G) (cI cB : ClassId) (ad : Nat → Nat) (hI : GI 13 ad) (M : PM) (a b c9 : Int32) : MM l D cI cB ad y_M_clashes b_M_clashes 4 none 0 0 [.ref (ad (0)), .int (a), .int (b), .int (c9)] M (fun v M' => v = none ∧ M' = pu (pu (pu M 10 0 a) 10 1 b) 10 2 c9) := by
  refine MC.of (by decide) (Nat.le_of_ble_eq_true rfl) ?_
  intro p e s m below meth c ls hx hb hr hml hown hg hlocks hK hN hP hS hl
  have hown : s.vm.findClass R_M = some m.cls := hown
  have hl : lv_has ls 4 [(0, .ref (ad (0))), (1, .int (a)), (2, .int (b)), (3, .int (c9))] := hl
  refine lv_aload_n hx hb d_M_clashes_0 rfl (lv_at hl 0 rfl) ?_
  refine g_get (C := R_M) (T := T_M) (N := 19) (ci := 8) (v := .ref (ad (10))) hx hb hg i_M hown hK hP 0 (by decide) rfl rfl 15 (by decide) (hg _ k_808) rfl d_M_clashes_1 ?_
  refine n_const (k := 0) hx hb d_M_clashes_4 (by decide) ?_
  refine lv_iload_n hx hb d_M_clashes_5 rfl (lv_at hl 1 rfl) ?_
  refine g_iast hx hb hK hI (fun _ h => h) hP hS 10 0 (by decide) (fun _ => rfl) rfl (by decide) (j := 0) (by omega) (v := (a)) d_M_clashes_6 (fun H locs hP hS => ?_)
  obtain ⟨M_1, eM_1⟩ : ∃ z : PM, z = (pu M 10 (0) ((a))) := ⟨_, rfl⟩
  rw [← eM_1] at hP
  refine lv_aload_n hx hb d_M_clashes_7 rfl (lv_at hl 0 rfl) ?_
  refine g_get (C := R_M) (T := T_M) (N := 19) (ci := 8) (v := .ref (ad (10))) hx hb hg i_M hown hK hP 0 (by decide) rfl rfl 15 (by decide) (hg _ k_808) rfl d_M_clashes_8 ?_
  refine n_const (k := 1) hx hb d_M_clashes_11 (by decide) ?_
  refine lv_iload_n hx hb d_M_clashes_12 rfl (lv_at hl 2 rfl) ?_
  refine g_iast hx hb hK hI (fun _ h => h) hP hS 10 0 (by decide) (fun _ => rfl) rfl (by decide) (j := 1) (by omega) (v := (b)) d_M_clashes_13 (fun H locs hP hS => ?_)
  obtain ⟨M_2, eM_2⟩ : ∃ z : PM, z = (pu M_1 10 (1) ((b))) := ⟨_, rfl⟩
  rw [← eM_2] at hP
  refine lv_aload_n hx hb d_M_clashes_14 rfl (lv_at hl 0 rfl) ?_
  refine g_get (C := R_M) (T := T_M) (N := 19) (ci := 8) (v := .ref (ad (10))) hx hb hg i_M hown hK hP 0 (by decide) rfl rfl 15 (by decide) (hg _ k_808) rfl d_M_clashes_15 ?_
  refine n_const (k := 2) hx hb d_M_clashes_18 (by decide) ?_
  refine lv_iload_n hx hb d_M_clashes_19 rfl (lv_at hl 3 rfl) ?_
  refine g_iast hx hb hK hI (fun _ h => h) hP hS 10 0 (by decide) (fun _ => rfl) rfl (by decide) (j := 2) (by omega) (v := (c9)) d_M_clashes_20 (fun H locs hP hS => ?_)
  obtain ⟨M_3, eM_3⟩ : ∃ z : PM, z = (pu M_2 10 (2) ((c9))) := ⟨_, rfl⟩
  rw [← eM_3] at hP
  exact r_v hx hb hr hlocks hP hS (⟨rfl, by rw [eM_3, eM_2, eM_1]⟩) d_M_clashes_21

set_option maxHeartbeats 4000000 in
set_option maxRecDepth 100000 in
theorem c_M_at (l : Launch) (D : va_G) (cI cB : ClassId) (ad : Nat → Nat) (hI : GI 13 ad) (M : PM) (n : Nat) (len : Nat → Nat) (ch : Nat → Nat → Nat) (sp : Nat → Option Nat) (hR : RN M n len ch sp) (k i : Nat) (hk : k < n) (hi : i < len k) : MM l D cI cB ad y_M_at b_M_at 3 (some .int) 0 0 [.ref (ad (0)), .int (nI (k)), .int (nI (i))] M (fun v M' => v = some (.int (nI (ch k i))) ∧ M = M') := by
  refine MC.of (by decide) (Nat.le_of_ble_eq_true rfl) ?_
  intro p e s m below meth c ls hx hb hr hml hown hg hlocks hK hN hP hS hl
  have hown : s.vm.findClass R_M = some m.cls := hown
  have hl : lv_has ls 3 [(0, .ref (ad (0))), (1, .int (nI (k))), (2, .int (nI (i)))] := hl
  have hn60 : n ≤ 60 := hR.1
  have hl24 := hR.2.2.1 k hk
  refine lv_aload_n hx hb d_M_at_0 rfl (lv_at hl 0 rfl) ?_
  refine g_get (C := R_M) (T := T_M) (N := 19) (ci := 8) (v := .ref (ad (2))) hx hb hg i_M hown hK hP 0 (by decide) rfl rfl 3 (by decide) (hg _ k_796) rfl d_M_at_1 ?_
  refine n_bipush (k := 24) hx hb d_M_at_4 (by decide) ?_
  refine lv_iload_n hx hb d_M_at_6 rfl (lv_at hl 1 rfl) ?_
  refine n_imul (a := 24) (b := k) hx hb d_M_at_7 ?_
  refine lv_iload_n hx hb d_M_at_8 rfl (lv_at hl 2 rfl) ?_
  refine n_iadd (a := (24) * (k)) (b := i) hx hb d_M_at_9 ?_
  refine g_bald hx hb hK hP 2 1 (by decide) rfl rfl (by decide) (j := ((24) * (k)) + (i)) (by omega) d_M_at_10 ?_
  refine n_top (y := (nI (ch k i))) ((hR.2.2.2.2.2 k i hk hi).2.2) ?_
  exact r_i hx hb hr hlocks hP hS (⟨rfl, rfl⟩) d_M_at_11

set_option maxHeartbeats 4000000 in
set_option maxRecDepth 100000 in
theorem c_M_begin (l : Launch) (D : va_G) (cI cB : ClassId) (ad : Nat → Nat) (hI : GI 13 ad) (M : PM) : MM l D cI cB ad y_M_begin b_M_begin 1 none 0 0 [.ref (ad (0))] M (fun v M' => v = none ∧ M' = pu M 0 17 0) := by
  refine MC.of (by decide) (Nat.le_of_ble_eq_true rfl) ?_
  intro p e s m below meth c ls hx hb hr hml hown hg hlocks hK hN hP hS hl
  have hown : s.vm.findClass R_M = some m.cls := hown
  have hl : lv_has ls 1 [(0, .ref (ad (0)))] := hl
  refine lv_aload_n hx hb d_M_begin_0 rfl (lv_at hl 0 rfl) ?_
  refine n_const (k := 0) hx hb d_M_begin_1 (by decide) ?_
  refine g_put (C := R_M) (T := T_M) (N := 19) (ci := 8) (v := (nI (0))) hx hb hg i_M ty_M t_M_ok n_M hown hK hI (fun _ h => h) hP hS 0 (by decide) rfl rfl 17 (by decide) (hg _ k_810) rfl (by decide +kernel) (Nat.le_of_ble_eq_true rfl) rfl d_M_begin_2 (fun H locs hP hS => ?_)
  obtain ⟨M_1, eM_1⟩ : ∃ z : PM, z = (pu M 0 17 ((nI (0)))) := ⟨_, rfl⟩
  rw [← eM_1] at hP
  exact r_v hx hb hr hlocks hP hS (⟨rfl, eM_1⟩) d_M_begin_5

set_option maxHeartbeats 4000000 in
set_option maxRecDepth 100000 in
theorem c_M_makes (l : Launch) (D : va_G) (cI cB : ClassId) (ad : Nat → Nat) (hI : GI 13 ad) (M : PM) (sl : Nat) (sc : Nat → Nat) (hMK : MK M sl sc) (c9 : Nat) (hc9 : c9 < 128) (hsl : sl < 64) : MM l D cI cB ad y_M_makes b_M_makes 2 none 0 0 [.ref (ad (0)), .int (nI (c9))] M (fun v M' => v = none ∧ M' = pu (pu M 0 17 (nI (sl + 1))) 11 sl (nI c9)) := by
  refine MC.of (by decide) (Nat.le_of_ble_eq_true rfl) ?_
  intro p e s m below meth c ls hx hb hr hml hown hg hlocks hK hN hP hS hl
  have hown : s.vm.findClass R_M = some m.cls := hown
  have hl : lv_has ls 2 [(0, .ref (ad (0))), (1, .int (nI (c9)))] := hl
  refine lv_aload_n hx hb d_M_makes_0 rfl (lv_at hl 0 rfl) ?_
  refine g_get (C := R_M) (T := T_M) (N := 19) (ci := 8) (v := .int (M 0 17)) hx hb hg i_M hown hK hP 0 (by decide) rfl rfl 17 (by decide) (hg _ k_810) rfl d_M_makes_1 ?_
  refine n_top (y := (nI (sl))) (hMK.2.1) ?_
  refine n_bipush (k := 64) hx hb d_M_makes_4 (by decide) ?_
  refine n_ge (a := sl) (b := 64) (tgt := 27) hx hb d_M_makes_6 (by decide) (by omega) (by omega) (fun c_6 => ?_) (fun c_6 => ?_)
  · exact absurd c_6 (by omega)
  · refine lv_aload_n hx hb d_M_makes_9 rfl (lv_at hl 0 rfl) ?_
    refine g_get (C := R_M) (T := T_M) (N := 19) (ci := 8) (v := .ref (ad (11))) hx hb hg i_M hown hK hP 0 (by decide) rfl rfl 16 (by decide) (hg _ k_809) rfl d_M_makes_10 ?_
    refine lv_aload_n hx hb d_M_makes_13 rfl (lv_at hl 0 rfl) ?_
    refine lv_dup hx hb d_M_makes_14 rfl ?_
    refine g_get (C := R_M) (T := T_M) (N := 19) (ci := 8) (v := .int (M 0 17)) hx hb hg i_M hown hK hP 0 (by decide) rfl rfl 17 (by decide) (hg _ k_810) rfl d_M_makes_15 ?_
    refine n_top (y := (nI (sl))) (hMK.2.1) ?_
    refine lv_dup_x1 hx hb d_M_makes_18 rfl rfl ?_
    refine n_const (k := 1) hx hb d_M_makes_19 (by decide) ?_
    refine n_iadd (a := sl) (b := 1) hx hb d_M_makes_20 ?_
    refine g_put (C := R_M) (T := T_M) (N := 19) (ci := 8) (v := (nI ((sl) + (1)))) hx hb hg i_M ty_M t_M_ok n_M hown hK hI (fun _ h => h) hP hS 0 (by decide) rfl rfl 17 (by decide) (hg _ k_810) rfl (by decide +kernel) (Nat.le_of_ble_eq_true rfl) rfl d_M_makes_21 (fun H locs hP hS => ?_)
    obtain ⟨M_1, eM_1⟩ : ∃ z : PM, z = (pu M 0 17 ((nI ((sl) + (1))))) := ⟨_, rfl⟩
    rw [← eM_1] at hP
    refine lv_iload_n hx hb d_M_makes_24 rfl (lv_at hl 1 rfl) ?_
    refine lv_i2b (v := nI (c9)) hx hb d_M_makes_25 (nb8 c9 hc9) ?_
    refine g_bast hx hb hK hI (fun _ h => h) hP hS 11 1 (by decide) (fun _ => rfl) rfl (by decide) (j := sl) (by omega) (v := (nI (c9))) d_M_makes_26 (fun H locs hP hS => ?_)
    obtain ⟨M_2, eM_2⟩ : ∃ z : PM, z = (pu M_1 11 (sl) (vp_nar .byte (nI (c9)))) := ⟨_, rfl⟩
    rw [← eM_2] at hP
    exact r_v hx hb hr hlocks hP hS (⟨rfl, by rw [eM_2, eM_1, nbb c9 hc9]⟩) d_M_makes_27

set_option maxHeartbeats 4000000 in
set_option maxRecDepth 100000 in
theorem c_M_found (l : Launch) (D : va_G) (cI cB : ClassId) (ad : Nat → Nat) (hI : GI 13 ad) (M : PM) (n : Nat) (len : Nat → Nat) (ch : Nat → Nat → Nat) (sp : Nat → Option Nat) (hR : RN M n len ch sp) (sl : Nat) (sc : Nat → Nat) (hMK : MK M sl sc) (o : Option Nat) (ho : Fst (sameT len ch sl sc) n o) : MM l D cI cB ad y_M_found b_M_found 4 (some .int) 1 22 [.ref (ad (0))] M (fun v M' => v = some (.int (oI (o))) ∧ M = M') := by
  refine MC.of (by decide) (Nat.le_of_ble_eq_true rfl) ?_
  intro p e s m below meth c ls hx hb hr hml hown hg hlocks hK hN hP hS hl
  have hown : s.vm.findClass R_M = some m.cls := hown
  have hl : lv_has ls 4 [(0, .ref (ad (0)))] := hl
  have hn60 : n ≤ 60 := hR.1
  have hl24 := hR.2.2.1
  have hsl64 : sl ≤ 64 := hMK.1
  have J2 : ∀ (fu2 : Nat) (k : Nat) (H : Heap) (locs : List Loc) (ls : Array Slot), n - k < fu2 → (k ≤ n) → (∀ q, q < k → ¬ sameT len ch sl sc q) → va_P D clsA (gw 13 ad (cfM cI cB ad) M) H → va_S (GA 13 ad) s.heap H locs → lv_has ls 4 [(0, .ref (ad (0))), (1, .int (nI (k)))] → W p l e (rm_ 1 22) s m ([.ref (ad (0))] : List Value).toArray below meth c H locs 0 0 (MQ below (GQ D 13 ad (cfM cI cB ad) (fun v M' => v = some (.int (oI (o))) ∧ M = M')) ([.ref (ad (0))] : List Value).toArray s 0 0 (GA 13 ad)) (F0 m 2 ls []) := by
    intro fu2
    induction fu2 with
    | zero => intro k H locs ls hfu; exact absurd hfu (Nat.not_lt_zero _)
    | succ fu2 ih2 =>
      intro k H locs ls hfu2 hk hpv hP hS hl
      have J31 : ∀ (fu31 : Nat) (i : Nat) (b : Bool) (H : Heap) (locs : List Loc) (ls : Array Slot), sl - i < fu31 → (k < n) → (i ≤ sl) → (b = true ↔ (len k = sl ∧ ∀ q, q < i → ch k q = sc q)) → va_P D clsA (gw 13 ad (cfM cI cB ad) M) H → va_S (GA 13 ad) s.heap H locs → lv_has ls 4 [(0, .ref (ad (0))), (1, .int (nI (k))), (2, .int (bI (b))), (3, .int (nI (i)))] → W p l e (rm_ 1 22) s m ([.ref (ad (0))] : List Value).toArray below meth c H locs 0 0 (MQ below (GQ D 13 ad (cfM cI cB ad) (fun v M' => v = some (.int (oI (o))) ∧ M = M')) ([.ref (ad (0))] : List Value).toArray s 0 0 (GA 13 ad)) (F0 m 31 ls []) := by
        intro fu31
        induction fu31 with
        | zero => intro i b H locs ls hfu; exact absurd hfu (Nat.not_lt_zero _)
        | succ fu31 ih31 =>
          intro i b H locs ls hfu31 hkn hi hbb hP hS hl
          refine lv_iload_n hx hb d_M_found_31 rfl (lv_at hl 3 rfl) ?_
          refine lv_aload_n hx hb d_M_found_32 rfl (lv_at hl 0 rfl) ?_
          refine g_get (C := R_M) (T := T_M) (N := 19) (ci := 8) (v := .int (M 0 17)) hx hb hg i_M hown hK hP 0 (by decide) rfl rfl 17 (by decide) (hg _ k_810) rfl d_M_found_33 ?_
          refine n_top (y := (nI (sl))) (hMK.2.1) ?_
          refine n_ge (a := i) (b := sl) (tgt := 70) hx hb d_M_found_36 (by decide) (by omega) (by omega) (fun c_36 => ?_) (fun c_36 => ?_)
          · refine lv_iload_n hx hb d_M_found_70 rfl (lv_at hl 2 rfl) ?_
            refine z_eq (t := b) (tgt := 76) hx hb d_M_found_71 (by decide) (fun c_71 => ?_) (fun c_71 => ?_)
            · have hpv9 : ∀ q, q < k + 1 → ¬ sameT len ch sl sc q := fun q hq => (by
                rcases Nat.lt_succ_iff_lt_or_eq.mp hq with h | h
                · exact hpv q h
                · subst h; intro h; have h9 : b = true := hbb.mpr ⟨h.1, fun j hj => h.2 j (by omega)⟩; rw [c_71] at h9; cases h9)
              refine n_inc (lv' := [(1, .int (nI (k + 1))), (0, .ref (ad (0))), (2, .int (bI (b))), (3, .int (nI (i)))]) hx hb d_M_found_76 hl (k := 1) rfl (by decide) rfl (fun ls hl => ?_)
              refine lv_goto (tgt := 2) hx hb d_M_found_79 (by decide) ?_
              exact ih2 (k + 1) _ _ ls (by omega) (by omega) (hpv9) hP hS (lv_sub hl [1, 0] rfl)
            · have hsm : sameT len ch sl sc k := by first | exact ⟨(hbb.mp c_71).1, fun q hq => (hbb.mp c_71).2 q (by omega)⟩ | (rw [c_40] at c_71; cases c_71)
              refine lv_iload_n hx hb d_M_found_74 rfl (lv_at hl 1 rfl) ?_
              exact r_i hx hb hr hlocks hP hS (⟨by rw [ho.is (by omega) hsm hpv]; rfl, rfl⟩) d_M_found_75
          · refine lv_iload_n hx hb d_M_found_39 rfl (lv_at hl 2 rfl) ?_
            refine z_eq (t := b) (tgt := 70) hx hb d_M_found_40 (by decide) (fun c_40 => ?_) (fun c_40 => ?_)
            · refine lv_iload_n hx hb d_M_found_70 rfl (lv_at hl 2 rfl) ?_
              refine z_eq (t := b) (tgt := 76) hx hb d_M_found_71 (by decide) (fun c_71 => ?_) (fun c_71 => ?_)
              · have hpv9 : ∀ q, q < k + 1 → ¬ sameT len ch sl sc q := fun q hq => (by
                  rcases Nat.lt_succ_iff_lt_or_eq.mp hq with h | h
                  · exact hpv q h
                  · subst h; intro h; have h9 : b = true := hbb.mpr ⟨h.1, fun j hj => h.2 j (by omega)⟩; rw [c_71] at h9; cases h9)
                refine n_inc (lv' := [(1, .int (nI (k + 1))), (0, .ref (ad (0))), (2, .int (bI (b))), (3, .int (nI (i)))]) hx hb d_M_found_76 hl (k := 1) rfl (by decide) rfl (fun ls hl => ?_)
                refine lv_goto (tgt := 2) hx hb d_M_found_79 (by decide) ?_
                exact ih2 (k + 1) _ _ ls (by omega) (by omega) (hpv9) hP hS (lv_sub hl [1, 0] rfl)
              · have hsm : sameT len ch sl sc k := by first | exact ⟨(hbb.mp c_71).1, fun q hq => (hbb.mp c_71).2 q (by omega)⟩ | (rw [c_40] at c_71; cases c_71)
                refine lv_iload_n hx hb d_M_found_74 rfl (lv_at hl 1 rfl) ?_
                exact r_i hx hb hr hlocks hP hS (⟨by rw [ho.is (by omega) hsm hpv]; rfl, rfl⟩) d_M_found_75
            · refine lv_aload_n hx hb d_M_found_43 rfl (lv_at hl 0 rfl) ?_
              refine lv_iload_n hx hb d_M_found_44 rfl (lv_at hl 1 rfl) ?_
              refine lv_iload_n hx hb d_M_found_45 rfl (lv_at hl 3 rfl) ?_
              refine c_V (own := R_M) (index := 64) (As := [.int (nI (k)), .int (nI (i))]) (rest := []) hx hb hml hown hg hK (fun _ _ _ h => h) (fun _ _ => trivial) (fun _ h => h) hP hS 0 (c_M_at l D cI cB ad hI M n len ch sp hR (k) (i) (by omega) (by have := (hbb.mp c_40).1; omega)) (by decide) (ci := 8) rfl rfl k_887 k_889 k_p27 k_9 k_890 2 rfl (by decide +kernel) (by decide) rfl hl.1 (Nat.le_of_ble_eq_true rfl) d_M_found_46 (fun v M' H locs hq hP _ _ hS => ?_)
              obtain ⟨rfl, rfl⟩ := hq
              refine W.eq (g2 := F0 m 49 ls [.int (nI (ch (k) (i)))]) rfl ?_
              refine lv_aload_n hx hb d_M_found_49 rfl (lv_at hl 0 rfl) ?_
              refine g_get (C := R_M) (T := T_M) (N := 19) (ci := 8) (v := .ref (ad (11))) hx hb hg i_M hown hK hP 0 (by decide) rfl rfl 16 (by decide) (hg _ k_809) rfl d_M_found_50 ?_
              refine lv_iload_n hx hb d_M_found_53 rfl (lv_at hl 3 rfl) ?_
              refine g_bald hx hb hK hP 11 1 (by decide) rfl rfl (by decide) (j := i) (by omega) d_M_found_54 ?_
              refine n_top (y := (nI (sc (i)))) ((hMK.2.2 (i) (by omega)).2) ?_
              refine n_ne (a := ch (k) (i)) (b := sc (i)) (tgt := 62) hx hb d_M_found_55 (by decide) (by have := hR.2.2.2.2.2 k i (by omega) (by have := (hbb.mp c_40).1; omega); omega) (by have := (hMK.2.2 i (by omega)).1; omega) (fun c_55 => ?_) (fun c_55 => ?_)
              · have hbb9 : (false = true) ↔ (len k = sl ∧ ∀ q, q < i + 1 → ch k q = sc q) := ⟨fun h => (by cases h), fun h => absurd (h.2 i (Nat.lt_succ_self i)) c_55⟩
                refine n_const (k := 0) hx hb d_M_found_62 (by decide) ?_
                refine lv_istore_n (lv' := [(2, .int (nI (0))), (0, .ref (ad (0))), (1, .int (nI (k))), (3, .int (nI (i)))]) hx hb d_M_found_63 rfl hl (by decide) rfl (fun ls hl => ?_)
                refine n_inc (lv' := [(3, .int (nI (i + 1))), (2, .int (nI (0))), (0, .ref (ad (0))), (1, .int (nI (k)))]) hx hb d_M_found_64 hl (k := 3) rfl (by decide) rfl (fun ls hl => ?_)
                refine lv_goto (tgt := 31) hx hb d_M_found_67 (by decide) ?_
                exact ih31 (i + 1) (false) _ _ ls (by omega) (by omega) (by omega) (hbb9) hP hS (lv_sub hl [2, 3, 1, 0] rfl)
              · have hbb9 : (true = true) ↔ (len k = sl ∧ ∀ q, q < i + 1 → ch k q = sc q) := ⟨fun _ => ⟨(hbb.mp c_40).1, fun q hq => (by
                  rcases Nat.lt_succ_iff_lt_or_eq.mp hq with h | h
                  · exact (hbb.mp c_40).2 q h
                  · subst h; exact c_55)⟩, fun _ => rfl⟩
                refine n_const (k := 1) hx hb d_M_found_58 (by decide) ?_
                refine lv_goto (tgt := 63) hx hb d_M_found_59 (by decide) ?_
                refine lv_istore_n (lv' := [(2, .int (nI (1))), (0, .ref (ad (0))), (1, .int (nI (k))), (3, .int (nI (i)))]) hx hb d_M_found_63 rfl hl (by decide) rfl (fun ls hl => ?_)
                refine n_inc (lv' := [(3, .int (nI (i + 1))), (2, .int (nI (1))), (0, .ref (ad (0))), (1, .int (nI (k)))]) hx hb d_M_found_64 hl (k := 3) rfl (by decide) rfl (fun ls hl => ?_)
                refine lv_goto (tgt := 31) hx hb d_M_found_67 (by decide) ?_
                exact ih31 (i + 1) (true) _ _ ls (by omega) (by omega) (by omega) (hbb9) hP hS (lv_sub hl [2, 3, 1, 0] rfl)
      refine lv_iload_n hx hb d_M_found_2 rfl (lv_at hl 1 rfl) ?_
      refine lv_aload_n hx hb d_M_found_3 rfl (lv_at hl 0 rfl) ?_
      refine g_get (C := R_M) (T := T_M) (N := 19) (ci := 8) (v := .int (M 0 5)) hx hb hg i_M hown hK hP 0 (by decide) rfl rfl 5 (by decide) (hg _ k_798) rfl d_M_found_4 ?_
      refine n_top (y := (nI (n))) (hR.2.1) ?_
      refine n_ge (a := k) (b := n) (tgt := 82) hx hb d_M_found_7 (by decide) (by omega) (by omega) (fun c_7 => ?_) (fun c_7 => ?_)
      · refine lv_iconst (v := -1) hx hb d_M_found_82 (by decide) ?_
        exact r_i hx hb hr hlocks hP hS (⟨by rw [ho.no (fun j hj => hpv j (by omega))]; rfl, rfl⟩) d_M_found_83
      · refine lv_aload_n hx hb d_M_found_10 rfl (lv_at hl 0 rfl) ?_
        refine g_get (C := R_M) (T := T_M) (N := 19) (ci := 8) (v := .ref (ad (3))) hx hb hg i_M hown hK hP 0 (by decide) rfl rfl 4 (by decide) (hg _ k_797) rfl d_M_found_11 ?_
        refine lv_iload_n hx hb d_M_found_14 rfl (lv_at hl 1 rfl) ?_
        refine g_iald hx hb hK hP 3 0 (by decide) rfl rfl (by decide) (j := k) (by omega) d_M_found_15 ?_
        refine n_top (y := (nI (len (k)))) ((hR.2.2.1 (k) (by omega)).2.2) ?_
        refine lv_aload_n hx hb d_M_found_16 rfl (lv_at hl 0 rfl) ?_
        refine g_get (C := R_M) (T := T_M) (N := 19) (ci := 8) (v := .int (M 0 17)) hx hb hg i_M hown hK hP 0 (by decide) rfl rfl 17 (by decide) (hg _ k_810) rfl d_M_found_17 ?_
        refine n_top (y := (nI (sl))) (hMK.2.1) ?_
        refine n_ne (a := len (k)) (b := sl) (tgt := 27) hx hb d_M_found_20 (by decide) (by have := hl24 k (by omega); omega) (by omega) (fun c_20 => ?_) (fun c_20 => ?_)
        · refine n_const (k := 0) hx hb d_M_found_27 (by decide) ?_
          refine lv_istore_n (lv' := [(2, .int (nI (0))), (0, .ref (ad (0))), (1, .int (nI (k)))]) hx hb d_M_found_28 rfl hl (by decide) rfl (fun ls hl => ?_)
          refine n_const (k := 0) hx hb d_M_found_29 (by decide) ?_
          refine lv_istore_n (lv' := [(3, .int (nI (0))), (2, .int (nI (0))), (0, .ref (ad (0))), (1, .int (nI (k)))]) hx hb d_M_found_30 rfl hl (by decide) rfl (fun ls hl => ?_)
          exact J31 (_ + 1) (0) (false) _ _ ls (Nat.lt_succ_self _) (by omega) (by omega) (by simp [c_20]) hP hS (lv_sub hl [2, 3, 1, 0] rfl)
        · refine n_const (k := 1) hx hb d_M_found_23 (by decide) ?_
          refine lv_goto (tgt := 28) hx hb d_M_found_24 (by decide) ?_
          refine lv_istore_n (lv' := [(2, .int (nI (1))), (0, .ref (ad (0))), (1, .int (nI (k)))]) hx hb d_M_found_28 rfl hl (by decide) rfl (fun ls hl => ?_)
          refine n_const (k := 0) hx hb d_M_found_29 (by decide) ?_
          refine lv_istore_n (lv' := [(3, .int (nI (0))), (2, .int (nI (1))), (0, .ref (ad (0))), (1, .int (nI (k)))]) hx hb d_M_found_30 rfl hl (by decide) rfl (fun ls hl => ?_)
          exact J31 (_ + 1) (0) (true) _ _ ls (Nat.lt_succ_self _) (by omega) (by omega) (by simp [c_20]) hP hS (lv_sub hl [2, 3, 1, 0] rfl)
  refine n_const (k := 0) hx hb d_M_found_0 (by decide) ?_
  refine lv_istore_n (lv' := [(1, .int (nI (0))), (0, .ref (ad (0)))]) hx hb d_M_found_1 rfl hl (by decide) rfl (fun ls hl => ?_)
  exact J2 (_ + 1) (0) _ _ ls (Nat.lt_succ_self _) (by omega) (by intro q hq; exact absurd hq (Nat.not_lt_zero q)) hP hS (lv_sub hl [1, 0] rfl)

set_option maxHeartbeats 4000000 in
set_option maxRecDepth 100000 in
theorem c_M_isTooMuch (l : Launch) (D : va_G) (cI cB : ClassId) (ad : Nat → Nat) (hI : GI 13 ad) (M : PM) (n : Nat) (len : Nat → Nat) (ch : Nat → Nat → Nat) (sp : Nat → Option Nat) (hR : RN M n len ch sp) (sl : Nat) (sc : Nat → Nat) (hMK : MK M sl sc) (o : Option Nat) (ho : Fst (sameT len ch sl sc) n o) (t : Bool) (ht : t = true ↔ (24 < sl ∨ (o = none ∧ n = 60))) : MM l D cI cB ad y_M_isTooMuch b_M_isTooMuch 1 (some .boolean) 2 45 [.ref (ad (0))] M (fun v M' => v = some (.int (bI (t))) ∧ M = M') := by
  refine MC.of (by decide) (Nat.le_of_ble_eq_true rfl) ?_
  intro p e s m below meth c ls hx hb hr hml hown hg hlocks hK hN hP hS hl
  have hown : s.vm.findClass R_M = some m.cls := hown
  have hl : lv_has ls 1 [(0, .ref (ad (0)))] := hl
  have hn60 : n ≤ 60 := hR.1
  have hsl64 : sl ≤ 64 := hMK.1
  have ho60 : ∀ k, o = some k → k < n := fun k h => by rw [h] at ho; exact ho.1
  refine lv_aload_n hx hb d_M_isTooMuch_0 rfl (lv_at hl 0 rfl) ?_
  refine g_get (C := R_M) (T := T_M) (N := 19) (ci := 8) (v := .int (M 0 17)) hx hb hg i_M hown hK hP 0 (by decide) rfl rfl 17 (by decide) (hg _ k_810) rfl d_M_isTooMuch_1 ?_
  refine n_top (y := (nI (sl))) (hMK.2.1) ?_
  refine n_bipush (k := 24) hx hb d_M_isTooMuch_4 (by decide) ?_
  refine n_gt (a := sl) (b := 24) (tgt := 25) hx hb d_M_isTooMuch_6 (by decide) (by omega) (by omega) (fun c_6 => ?_) (fun c_6 => ?_)
  · have h9 : t = true := ht.mpr (Or.inl c_6)
    refine n_const (k := 1) hx hb d_M_isTooMuch_25 (by decide) ?_
    refine lv_goto (tgt := 30) hx hb d_M_isTooMuch_26 (by decide) ?_
    exact r_z hx hb hr hlocks (rfl) hP hS (⟨bz1 (h9), rfl⟩) d_M_isTooMuch_30
  · refine lv_aload_n hx hb d_M_isTooMuch_9 rfl (lv_at hl 0 rfl) ?_
    refine c_V (own := R_M) (index := 68) (As := []) (rest := []) hx hb hml hown hg hK (fun _ _ _ h => h) (fun _ _ => trivial) (fun _ h => h) hP hS 0 (c_M_found l D cI cB ad hI M n len ch sp hR sl sc hMK o ho) (by decide) (ci := 8) rfl rfl k_883 k_885 k_p26 k_9 k_886 0 rfl (by decide +kernel) (by decide) rfl hl.1 (Nat.le_of_ble_eq_true rfl) d_M_isTooMuch_10 (fun v M' H locs hq hP _ _ hS => ?_)
    obtain ⟨rfl, rfl⟩ := hq
    refine W.eq (g2 := F0 m 13 ls [.int (oI (o))]) rfl ?_
    refine o_ge (o := o) (tgt := 29) hx hb d_M_isTooMuch_13 (by decide) (by intro q hq; have := ho60 q hq; omega) (fun v_13 c_13 => ?_) (fun c_13 => ?_)
    · have h9 : t = false := b_f ht (by rw [c_13]; simp; omega)
      refine n_const (k := 0) hx hb d_M_isTooMuch_29 (by decide) ?_
      exact r_z hx hb hr hlocks (rfl) hP hS (⟨bz0 (h9), rfl⟩) d_M_isTooMuch_30
    · refine lv_aload_n hx hb d_M_isTooMuch_16 rfl (lv_at hl 0 rfl) ?_
      refine g_get (C := R_M) (T := T_M) (N := 19) (ci := 8) (v := .int (M 0 5)) hx hb hg i_M hown hK hP 0 (by decide) rfl rfl 5 (by decide) (hg _ k_798) rfl d_M_isTooMuch_17 ?_
      refine n_top (y := (nI (n))) (hR.2.1) ?_
      refine n_bipush (k := 60) hx hb d_M_isTooMuch_20 (by decide) ?_
      refine n_ne (a := n) (b := 60) (tgt := 29) hx hb d_M_isTooMuch_22 (by decide) (by omega) (by omega) (fun c_22 => ?_) (fun c_22 => ?_)
      · have h9 : t = false := b_f ht (by rintro (h | h) <;> omega)
        refine n_const (k := 0) hx hb d_M_isTooMuch_29 (by decide) ?_
        exact r_z hx hb hr hlocks (rfl) hP hS (⟨bz0 (h9), rfl⟩) d_M_isTooMuch_30
      · have h9 : t = true := ht.mpr (Or.inr ⟨c_13, c_22⟩)
        refine n_const (k := 1) hx hb d_M_isTooMuch_25 (by decide) ?_
        refine lv_goto (tgt := 30) hx hb d_M_isTooMuch_26 (by decide) ?_
        exact r_z hx hb hr hlocks (rfl) hP hS (⟨bz1 (h9), rfl⟩) d_M_isTooMuch_30

set_option maxHeartbeats 4000000 in
set_option maxRecDepth 100000 in
theorem c_M_comes_old (l : Launch) (D : va_G) (cI cB : ClassId) (ad : Nat → Nat) (hI : GI 13 ad) (M : PM) (n : Nat) (len : Nat → Nat) (ch : Nat → Nat → Nat) (sp : Nat → Option Nat) (hR : RN M n len ch sp) (sl : Nat) (sc : Nat → Nat) (hMK : MK M sl sc) (k : Nat) (ho : Fst (sameT len ch sl sc) n (some k)) : MM l D cI cB ad y_M_comes b_M_comes 3 (some .int) 2 45 [.ref (ad (0))] M (fun v M' => v = some (.int (nI (k))) ∧ M = M') := by
  refine MC.of (by decide) (Nat.le_of_ble_eq_true rfl) ?_
  intro p e s m below meth c ls hx hb hr hml hown hg hlocks hK hN hP hS hl
  have hown : s.vm.findClass R_M = some m.cls := hown
  have hl : lv_has ls 3 [(0, .ref (ad (0)))] := hl
  have hn60 : n ≤ 60 := hR.1
  have hkn : k < n := ho.1
  refine lv_aload_n hx hb d_M_comes_0 rfl (lv_at hl 0 rfl) ?_
  refine c_V (own := R_M) (index := 68) (As := []) (rest := []) hx hb hml hown hg hK (fun _ _ _ h => h) (fun _ _ => trivial) (fun _ h => h) hP hS 0 (c_M_found l D cI cB ad hI M n len ch sp hR sl sc hMK (some k) ho) (by decide) (ci := 8) rfl rfl k_883 k_885 k_p26 k_9 k_886 0 rfl (by decide +kernel) (by decide) rfl hl.1 (Nat.le_of_ble_eq_true rfl) d_M_comes_1 (fun v M' H locs hq hP _ _ hS => ?_)
  obtain ⟨rfl, rfl⟩ := hq
  refine W.eq (g2 := F0 m 4 ls [.int (nI (k))]) rfl ?_
  refine lv_istore_n (lv' := [(1, .int (nI (k))), (0, .ref (ad (0)))]) hx hb d_M_comes_4 rfl hl (by decide) rfl (fun ls hl => ?_)
  refine lv_iload_n hx hb d_M_comes_5 rfl (lv_at hl 0 rfl) ?_
  refine lv_if_lt (tgt := 11) hx hb d_M_comes_6 (by decide) (fun c_6 => ?_) (fun c_6 => ?_)
  · exact absurd c_6 (nI_pos (by omega))
  · refine lv_iload_n hx hb d_M_comes_9 rfl (lv_at hl 0 rfl) ?_
    exact r_i hx hb hr hlocks hP hS (⟨rfl, rfl⟩) d_M_comes_10

set_option maxHeartbeats 4000000 in
set_option maxRecDepth 100000 in
theorem c_M_comes_new (l : Launch) (D : va_G) (cI cB : ClassId) (ad : Nat → Nat) (hI : GI 13 ad) (M : PM) (n : Nat) (len : Nat → Nat) (ch : Nat → Nat → Nat) (sp : Nat → Option Nat) (hR : RN M n len ch sp) (sl : Nat) (sc : Nat → Nat) (hMK : MK M sl sc) (ho : Fst (sameT len ch sl sc) n none) (hn : n < 60) (hs1 : 1 ≤ sl) (hs24 : sl ≤ 24) : MM l D cI cB ad y_M_comes b_M_comes 3 (some .int) 2 45 [.ref (ad (0))] M (fun v M' => v = some (.int (nI n)) ∧ CMd M M' n sl sc) := by
  refine MC.of (by decide) (Nat.le_of_ble_eq_true rfl) ?_
  intro p e s m below meth c ls hx hb hr hml hown hg hlocks hK hN hP hS hl
  have hown : s.vm.findClass R_M = some m.cls := hown
  have hl : lv_has ls 3 [(0, .ref (ad (0)))] := hl
  have hn60 : n ≤ 60 := hR.1
  have J13 : ∀ (fu13 : Nat) (i : Nat) (M1 : PM) (H : Heap) (locs : List Loc) (ls : Array Slot), sl - i < fu13 → (i ≤ sl) → (∀ q, q < i → M1 2 (24 * n + q) = nI (sc q)) → (∀ a b, ¬ (a = 2 ∧ 24 * n ≤ b ∧ b < 24 * n + i) → M1 a b = M a b) → va_P D clsA (gw 13 ad (cfM cI cB ad) M1) H → va_S (GA 13 ad) s.heap H locs → lv_has ls 3 [(0, .ref (ad (0))), (2, .int (nI (i)))] → W p l e (rm_ 2 45) s m ([.ref (ad (0))] : List Value).toArray below meth c H locs 0 0 (MQ below (GQ D 13 ad (cfM cI cB ad) (fun v M' => v = some (.int (nI n)) ∧ CMd M M' n sl sc)) ([.ref (ad (0))] : List Value).toArray s 0 0 (GA 13 ad)) (F0 m 13 ls []) := by
    intro fu13
    induction fu13 with
    | zero => intro i M1 H locs ls hfu; exact absurd hfu (Nat.not_lt_zero _)
    | succ fu13 ih13 =>
      intro i M1 H locs ls hfu13 hi hW hF hP hS hl
      have h17 : M1 0 17 = nI sl := by rw [hF 0 17 (by omega)]; exact hMK.2.1
      have h05 : M1 0 5 = nI n := by rw [hF 0 5 (by omega)]; exact hR.2.1
      have h11 : ∀ q, q < sl → M1 11 q = nI (sc q) := fun q hq => by rw [hF 11 q (by omega)]; exact (hMK.2.2 q hq).2
      refine lv_iload_n hx hb d_M_comes_13 rfl (lv_at hl 1 rfl) ?_
      refine lv_aload_n hx hb d_M_comes_14 rfl (lv_at hl 0 rfl) ?_
      refine g_get (C := R_M) (T := T_M) (N := 19) (ci := 8) (v := .int (M1 0 17)) hx hb hg i_M hown hK hP 0 (by decide) rfl rfl 17 (by decide) (hg _ k_810) rfl d_M_comes_15 ?_
      refine n_top (y := (nI (sl))) (h17) ?_
      refine n_ge (a := i) (b := sl) (tgt := 47) hx hb d_M_comes_18 (by decide) (by omega) (by omega) (fun c_18 => ?_) (fun c_18 => ?_)
      · refine lv_aload_n hx hb d_M_comes_47 rfl (lv_at hl 0 rfl) ?_
        refine g_get (C := R_M) (T := T_M) (N := 19) (ci := 8) (v := .ref (ad (3))) hx hb hg i_M hown hK hP 0 (by decide) rfl rfl 4 (by decide) (hg _ k_797) rfl d_M_comes_48 ?_
        refine lv_aload_n hx hb d_M_comes_51 rfl (lv_at hl 0 rfl) ?_
        refine g_get (C := R_M) (T := T_M) (N := 19) (ci := 8) (v := .int (M1 0 5)) hx hb hg i_M hown hK hP 0 (by decide) rfl rfl 5 (by decide) (hg _ k_798) rfl d_M_comes_52 ?_
        refine n_top (y := (nI (n))) (h05) ?_
        refine lv_aload_n hx hb d_M_comes_55 rfl (lv_at hl 0 rfl) ?_
        refine g_get (C := R_M) (T := T_M) (N := 19) (ci := 8) (v := .int (M1 0 17)) hx hb hg i_M hown hK hP 0 (by decide) rfl rfl 17 (by decide) (hg _ k_810) rfl d_M_comes_56 ?_
        refine n_top (y := (nI (sl))) (h17) ?_
        refine g_iast hx hb hK hI (fun _ h => h) hP hS 3 0 (by decide) (fun _ => rfl) rfl (by decide) (j := n) (by omega) (v := (nI (sl))) d_M_comes_59 (fun H locs hP hS => ?_)
        obtain ⟨M_1, eM_1⟩ : ∃ z : PM, z = (pu M1 3 (n) ((nI (sl)))) := ⟨_, rfl⟩
        rw [← eM_1] at hP
        refine lv_aload_n hx hb d_M_comes_60 rfl (lv_at hl 0 rfl) ?_
        refine g_get (C := R_M) (T := T_M) (N := 19) (ci := 8) (v := .ref (ad (4))) hx hb hg i_M hown hK hP 0 (by decide) rfl rfl 6 (by decide) (hg _ k_799) rfl d_M_comes_61 ?_
        refine lv_aload_n hx hb d_M_comes_64 rfl (lv_at hl 0 rfl) ?_
        refine g_get (C := R_M) (T := T_M) (N := 19) (ci := 8) (v := .int (M_1 0 5)) hx hb hg i_M hown hK hP 0 (by decide) rfl rfl 5 (by decide) (hg _ k_798) rfl d_M_comes_65 ?_
        refine n_top (y := (nI (n))) (by rw [eM_1, pu_k _ _ _ _ _ (by first | decide | omega)]; exact h05) ?_
        refine lv_iconst (v := -1) hx hb d_M_comes_68 (by decide) ?_
        refine g_iast hx hb hK hI (fun _ h => h) hP hS 4 0 (by decide) (fun _ => rfl) rfl (by decide) (j := n) (by omega) (v := (-1)) d_M_comes_69 (fun H locs hP hS => ?_)
        obtain ⟨M_2, eM_2⟩ : ∃ z : PM, z = (pu M_1 4 (n) ((-1))) := ⟨_, rfl⟩
        rw [← eM_2] at hP
        refine lv_aload_n hx hb d_M_comes_70 rfl (lv_at hl 0 rfl) ?_
        refine g_get (C := R_M) (T := T_M) (N := 19) (ci := 8) (v := .ref (ad (5))) hx hb hg i_M hown hK hP 0 (by decide) rfl rfl 7 (by decide) (hg _ k_800) rfl d_M_comes_71 ?_
        refine lv_aload_n hx hb d_M_comes_74 rfl (lv_at hl 0 rfl) ?_
        refine g_get (C := R_M) (T := T_M) (N := 19) (ci := 8) (v := .int (M_2 0 5)) hx hb hg i_M hown hK hP 0 (by decide) rfl rfl 5 (by decide) (hg _ k_798) rfl d_M_comes_75 ?_
        refine n_top (y := (nI (n))) (by rw [eM_2, pu_k _ _ _ _ _ (by first | decide | omega), eM_1, pu_k _ _ _ _ _ (by first | decide | omega)]; exact h05) ?_
        refine n_const (k := 0) hx hb d_M_comes_78 (by decide) ?_
        refine g_iast hx hb hK hI (fun _ h => h) hP hS 5 0 (by decide) (fun _ => rfl) rfl (by decide) (j := n) (by omega) (v := (nI (0))) d_M_comes_79 (fun H locs hP hS => ?_)
        obtain ⟨M_3, eM_3⟩ : ∃ z : PM, z = (pu M_2 5 (n) ((nI (0)))) := ⟨_, rfl⟩
        rw [← eM_3] at hP
        refine lv_aload_n hx hb d_M_comes_80 rfl (lv_at hl 0 rfl) ?_
        refine g_get (C := R_M) (T := T_M) (N := 19) (ci := 8) (v := .ref (ad (6))) hx hb hg i_M hown hK hP 0 (by decide) rfl rfl 8 (by decide) (hg _ k_801) rfl d_M_comes_81 ?_
        refine lv_aload_n hx hb d_M_comes_84 rfl (lv_at hl 0 rfl) ?_
        refine g_get (C := R_M) (T := T_M) (N := 19) (ci := 8) (v := .int (M_3 0 5)) hx hb hg i_M hown hK hP 0 (by decide) rfl rfl 5 (by decide) (hg _ k_798) rfl d_M_comes_85 ?_
        refine n_top (y := (nI (n))) (by rw [eM_3, pu_k _ _ _ _ _ (by first | decide | omega), eM_2, pu_k _ _ _ _ _ (by first | decide | omega), eM_1, pu_k _ _ _ _ _ (by first | decide | omega)]; exact h05) ?_
        refine lv_iconst (v := -1) hx hb d_M_comes_88 (by decide) ?_
        refine g_iast hx hb hK hI (fun _ h => h) hP hS 6 0 (by decide) (fun _ => rfl) rfl (by decide) (j := n) (by omega) (v := (-1)) d_M_comes_89 (fun H locs hP hS => ?_)
        obtain ⟨M_4, eM_4⟩ : ∃ z : PM, z = (pu M_3 6 (n) ((-1))) := ⟨_, rfl⟩
        rw [← eM_4] at hP
        refine lv_aload_n hx hb d_M_comes_90 rfl (lv_at hl 0 rfl) ?_
        refine lv_dup hx hb d_M_comes_91 rfl ?_
        refine g_get (C := R_M) (T := T_M) (N := 19) (ci := 8) (v := .int (M_4 0 5)) hx hb hg i_M hown hK hP 0 (by decide) rfl rfl 5 (by decide) (hg _ k_798) rfl d_M_comes_92 ?_
        refine n_top (y := (nI (n))) (by rw [eM_4, pu_k _ _ _ _ _ (by first | decide | omega), eM_3, pu_k _ _ _ _ _ (by first | decide | omega), eM_2, pu_k _ _ _ _ _ (by first | decide | omega), eM_1, pu_k _ _ _ _ _ (by first | decide | omega)]; exact h05) ?_
        refine lv_dup_x1 hx hb d_M_comes_95 rfl rfl ?_
        refine n_const (k := 1) hx hb d_M_comes_96 (by decide) ?_
        refine n_iadd (a := n) (b := 1) hx hb d_M_comes_97 ?_
        refine g_put (C := R_M) (T := T_M) (N := 19) (ci := 8) (v := (nI ((n) + (1)))) hx hb hg i_M ty_M t_M_ok n_M hown hK hI (fun _ h => h) hP hS 0 (by decide) rfl rfl 5 (by decide) (hg _ k_798) rfl (by decide +kernel) (Nat.le_of_ble_eq_true rfl) rfl d_M_comes_98 (fun H locs hP hS => ?_)
        obtain ⟨M_5, eM_5⟩ : ∃ z : PM, z = (pu M_4 0 5 ((nI ((n) + (1))))) := ⟨_, rfl⟩
        rw [← eM_5] at hP
        exact r_i hx hb hr hlocks hP hS (⟨rfl, (by
    refine ⟨fun q hq => ?_, ?_, ?_, ?_, ?_, ?_, fun a b g1 g2 g3 => ?_⟩
    · rw [eM_5, eM_4, eM_3, eM_2, eM_1]; simp only [pu_eq]; simp; exact hW q (by omega)
    · rw [eM_5, eM_4, eM_3, eM_2, eM_1]; simp [pu_eq]
    · rw [eM_5, eM_4, eM_3, eM_2, eM_1]; simp [pu_eq]
    · rw [eM_5, eM_4, eM_3, eM_2, eM_1]; simp [pu_eq]; rfl
    · rw [eM_5, eM_4, eM_3, eM_2, eM_1]; simp [pu_eq]
    · rw [eM_5, eM_4, eM_3, eM_2, eM_1]; simp [pu_eq]
    · rw [eM_5, eM_4, eM_3, eM_2, eM_1]
      rw [pu_eq, if_neg (by omega), pu_eq, if_neg (by omega), pu_eq, if_neg (by omega), pu_eq, if_neg (by omega), pu_eq, if_neg (by omega)]
      exact hF a b (by omega))⟩) d_M_comes_101
      · refine lv_aload_n hx hb d_M_comes_21 rfl (lv_at hl 0 rfl) ?_
        refine g_get (C := R_M) (T := T_M) (N := 19) (ci := 8) (v := .ref (ad (2))) hx hb hg i_M hown hK hP 0 (by decide) rfl rfl 3 (by decide) (hg _ k_796) rfl d_M_comes_22 ?_
        refine n_bipush (k := 24) hx hb d_M_comes_25 (by decide) ?_
        refine lv_aload_n hx hb d_M_comes_27 rfl (lv_at hl 0 rfl) ?_
        refine g_get (C := R_M) (T := T_M) (N := 19) (ci := 8) (v := .int (M1 0 5)) hx hb hg i_M hown hK hP 0 (by decide) rfl rfl 5 (by decide) (hg _ k_798) rfl d_M_comes_28 ?_
        refine n_top (y := (nI (n))) (h05) ?_
        refine n_imul (a := 24) (b := n) hx hb d_M_comes_31 ?_
        refine lv_iload_n hx hb d_M_comes_32 rfl (lv_at hl 1 rfl) ?_
        refine n_iadd (a := (24) * (n)) (b := i) hx hb d_M_comes_33 ?_
        refine lv_aload_n hx hb d_M_comes_34 rfl (lv_at hl 0 rfl) ?_
        refine g_get (C := R_M) (T := T_M) (N := 19) (ci := 8) (v := .ref (ad (11))) hx hb hg i_M hown hK hP 0 (by decide) rfl rfl 16 (by decide) (hg _ k_809) rfl d_M_comes_35 ?_
        refine lv_iload_n hx hb d_M_comes_38 rfl (lv_at hl 1 rfl) ?_
        refine g_bald hx hb hK hP 11 1 (by decide) rfl rfl (by decide) (j := i) (by omega) d_M_comes_39 ?_
        refine n_top (y := (nI (sc (i)))) (h11 (i) (by omega)) ?_
        refine g_bast hx hb hK hI (fun _ h => h) hP hS 2 1 (by decide) (fun _ => rfl) rfl (by decide) (j := ((24) * (n)) + (i)) (by omega) (v := (nI (sc (i)))) d_M_comes_40 (fun H locs hP hS => ?_)
        obtain ⟨M_6, eM_6⟩ : ∃ z : PM, z = (pu M1 2 (((24) * (n)) + (i)) (vp_nar .byte (nI (sc (i))))) := ⟨_, rfl⟩
        rw [← eM_6] at hP
        refine n_inc (lv' := [(2, .int (nI (i + 1))), (0, .ref (ad (0)))]) hx hb d_M_comes_41 hl (k := 1) rfl (by decide) rfl (fun ls hl => ?_)
        refine lv_goto (tgt := 13) hx hb d_M_comes_44 (by decide) ?_
        exact ih13 (i + 1) M_6 _ _ ls (by omega) (by omega) (fun q hq => (by
  rcases Nat.lt_succ_iff_lt_or_eq.mp hq with h | h
  · rw [eM_6, pu_j _ _ _ _ _ (by omega)]; exact hW q h
  · subst h; rw [eM_6, pu_s]; exact nbb _ (hMK.2.2 q (by omega)).1)) (fun a b h => (by
  rw [eM_6, pu_eq, if_neg (by omega)]; exact hF a b (by omega))) hP hS (lv_sub hl [1, 0] rfl)
  refine lv_aload_n hx hb d_M_comes_0 rfl (lv_at hl 0 rfl) ?_
  refine c_V (own := R_M) (index := 68) (As := []) (rest := []) hx hb hml hown hg hK (fun _ _ _ h => h) (fun _ _ => trivial) (fun _ h => h) hP hS 0 (c_M_found l D cI cB ad hI M n len ch sp hR sl sc hMK none ho) (by decide) (ci := 8) rfl rfl k_883 k_885 k_p26 k_9 k_886 0 rfl (by decide +kernel) (by decide) rfl hl.1 (Nat.le_of_ble_eq_true rfl) d_M_comes_1 (fun v M' H locs hq hP _ _ hS => ?_)
  obtain ⟨rfl, rfl⟩ := hq
  refine W.eq (g2 := F0 m 4 ls [.int (-1)]) rfl ?_
  refine lv_istore_n (lv' := [(1, .int (-1)), (0, .ref (ad (0)))]) hx hb d_M_comes_4 rfl hl (by decide) rfl (fun ls hl => ?_)
  refine lv_iload_n hx hb d_M_comes_5 rfl (lv_at hl 0 rfl) ?_
  refine lv_if_lt (tgt := 11) hx hb d_M_comes_6 (by decide) (fun c_6 => ?_) (fun c_6 => ?_)
  · refine n_const (k := 0) hx hb d_M_comes_11 (by decide) ?_
    refine lv_istore_n (lv' := [(2, .int (nI (0))), (1, .int (-1)), (0, .ref (ad (0)))]) hx hb d_M_comes_12 rfl hl (by decide) rfl (fun ls hl => ?_)
    exact J13 (_ + 1) (0) M _ _ ls (Nat.lt_succ_self _) (by omega) (fun q hq => absurd hq (Nat.not_lt_zero q)) (fun _ _ _ => rfl) hP hS (lv_sub hl [2, 0] rfl)
  · exact absurd (by decide) c_6
end
section
set_option maxHeartbeats 4000000 in
set_option maxRecDepth 100000 in
theorem c_M_space_1 (l : Launch) (D : va_G) (cI cB : ClassId) (ad : Nat → Nat) (hI : GI 13 ad) (M : PM) (n : Nat) (len : Nat → Nat) (ch : Nat → Nat → Nat) (sp : Nat → Option Nat) (hR : RN M n len ch sp) (x : Int32) (hbad : ¬ ∃ j, j < n ∧ x = nI j) : MM l D cI cB ad y_M_space b_M_space 2 (some .int) 1 21 [.ref (ad (0)), .int (x)] M (fun v M' => v = some (.int (nI 0)) ∧ M' = pu M 0 0 (nI 1)) := by
  refine MC.of (by decide) (Nat.le_of_ble_eq_true rfl) ?_
  intro p e s m below meth c ls hx hb hr hml hown hg hlocks hK hN hP hS hl
  have hown : s.vm.findClass R_M = some m.cls := hown
  have hl : lv_has ls 2 [(0, .ref (ad (0))), (1, .int (x))] := hl
  have hn60 : n ≤ 60 := hR.1
  refine lv_aload_n hx hb d_M_space_0 rfl (lv_at hl 0 rfl) ?_
  refine lv_aload_n hx hb d_M_space_1 rfl (lv_at hl 0 rfl) ?_
  refine lv_iload_n hx hb d_M_space_2 rfl (lv_at hl 1 rfl) ?_
  refine c_V (own := R_M) (index := 89) (As := [.int (x)]) (rest := [.ref (ad (0))]) hx hb hml hown hg hK (fun _ _ _ h => h) (fun _ _ => trivial) (fun _ h => h) hP hS 0 (c_M_no l D cI cB ad hI M n len ch sp hR (x) true (no_t hbad)) (by decide) (ci := 8) rfl rfl k_907 k_909 k_p30 k_9 k_910 1 rfl (by decide +kernel) (by decide) rfl hl.1 (Nat.le_of_ble_eq_true rfl) d_M_space_3 (fun v M' H locs hq hP _ _ hS => ?_)
  obtain ⟨rfl, rfl⟩ := hq
  refine W.eq (g2 := F0 m 6 ls [.int (bI (true)), .ref (ad (0))]) rfl ?_
  refine z_eq (t := true) (tgt := 13) hx hb d_M_space_6 (by decide) (fun h9 => absurd h9 (by decide)) (fun _ => ?_)
  refine n_const (k := 1) hx hb d_M_space_9 (by decide) ?_
  refine lv_goto (tgt := 14) hx hb d_M_space_10 (by decide) ?_
  refine c_V (own := R_M) (index := 57) (As := [.int (nI (1))]) (rest := []) hx hb hml hown hg hK (fun _ _ _ h => h) (fun _ _ => trivial) (fun _ h => h) hP hS 0 (c_M_refuses l D cI cB ad hI M (1) (by decide)) (by decide) (ci := 8) rfl rfl k_859 k_861 k_p22 k_9 k_862 1 rfl (by decide +kernel) (by decide) rfl hl.1 (Nat.le_of_ble_eq_true rfl) d_M_space_14 (fun v M_1 H locs hq hP _ _ hS => ?_)
  obtain ⟨rfl, eM_1⟩ := hq
  refine W.eq (g2 := F0 m 17 ls [.int (bI (true))]) rfl ?_
  refine z_eq (t := true) (tgt := 24) hx hb d_M_space_17 (by decide) (fun h9 => absurd h9 (by decide)) (fun _ => ?_)
  refine n_const (k := 0) hx hb d_M_space_20 (by decide) ?_
  refine lv_goto (tgt := 29) hx hb d_M_space_21 (by decide) ?_
  exact r_i hx hb hr hlocks hP hS (⟨rfl, eM_1⟩) d_M_space_29

set_option maxHeartbeats 4000000 in
set_option maxRecDepth 100000 in
theorem c_M_best_1 (l : Launch) (D : va_G) (cI cB : ClassId) (ad : Nat → Nat) (hI : GI 13 ad) (M : PM) (n : Nat) (len : Nat → Nat) (ch : Nat → Nat → Nat) (sp : Nat → Option Nat) (hR : RN M n len ch sp) (x : Int32) (hbad : ¬ ∃ j, j < n ∧ x = nI j) : MM l D cI cB ad y_M_best b_M_best 2 (some .int) 1 21 [.ref (ad (0)), .int (x)] M (fun v M' => v = some (.int (nI 0)) ∧ M' = pu M 0 0 (nI 1)) := by
  refine MC.of (by decide) (Nat.le_of_ble_eq_true rfl) ?_
  intro p e s m below meth c ls hx hb hr hml hown hg hlocks hK hN hP hS hl
  have hown : s.vm.findClass R_M = some m.cls := hown
  have hl : lv_has ls 2 [(0, .ref (ad (0))), (1, .int (x))] := hl
  have hn60 : n ≤ 60 := hR.1
  refine lv_aload_n hx hb d_M_best_0 rfl (lv_at hl 0 rfl) ?_
  refine lv_aload_n hx hb d_M_best_1 rfl (lv_at hl 0 rfl) ?_
  refine lv_iload_n hx hb d_M_best_2 rfl (lv_at hl 1 rfl) ?_
  refine c_V (own := R_M) (index := 89) (As := [.int (x)]) (rest := [.ref (ad (0))]) hx hb hml hown hg hK (fun _ _ _ h => h) (fun _ _ => trivial) (fun _ h => h) hP hS 0 (c_M_no l D cI cB ad hI M n len ch sp hR (x) true (no_t hbad)) (by decide) (ci := 8) rfl rfl k_907 k_909 k_p30 k_9 k_910 1 rfl (by decide +kernel) (by decide) rfl hl.1 (Nat.le_of_ble_eq_true rfl) d_M_best_3 (fun v M' H locs hq hP _ _ hS => ?_)
  obtain ⟨rfl, rfl⟩ := hq
  refine W.eq (g2 := F0 m 6 ls [.int (bI (true)), .ref (ad (0))]) rfl ?_
  refine z_eq (t := true) (tgt := 13) hx hb d_M_best_6 (by decide) (fun h9 => absurd h9 (by decide)) (fun _ => ?_)
  refine n_const (k := 1) hx hb d_M_best_9 (by decide) ?_
  refine lv_goto (tgt := 14) hx hb d_M_best_10 (by decide) ?_
  refine c_V (own := R_M) (index := 57) (As := [.int (nI (1))]) (rest := []) hx hb hml hown hg hK (fun _ _ _ h => h) (fun _ _ => trivial) (fun _ h => h) hP hS 0 (c_M_refuses l D cI cB ad hI M (1) (by decide)) (by decide) (ci := 8) rfl rfl k_859 k_861 k_p22 k_9 k_862 1 rfl (by decide +kernel) (by decide) rfl hl.1 (Nat.le_of_ble_eq_true rfl) d_M_best_14 (fun v M_1 H locs hq hP _ _ hS => ?_)
  obtain ⟨rfl, eM_1⟩ := hq
  refine W.eq (g2 := F0 m 17 ls [.int (bI (true))]) rfl ?_
  refine z_eq (t := true) (tgt := 24) hx hb d_M_best_17 (by decide) (fun h9 => absurd h9 (by decide)) (fun _ => ?_)
  refine n_const (k := 0) hx hb d_M_best_20 (by decide) ?_
  refine lv_goto (tgt := 33) hx hb d_M_best_21 (by decide) ?_
  exact r_i hx hb hr hlocks hP hS (⟨rfl, eM_1⟩) d_M_best_33

set_option maxHeartbeats 4000000 in
set_option maxRecDepth 100000 in
theorem c_M_propose_1 (l : Launch) (D : va_G) (cI cB : ClassId) (ad : Nat → Nat) (hI : GI 13 ad) (M : PM) (n : Nat) (len : Nat → Nat) (ch : Nat → Nat → Nat) (sp : Nat → Option Nat) (hR : RN M n len ch sp) (x : Int32) (hbad : ¬ ∃ j, j < n ∧ x = nI j) : MM l D cI cB ad y_M_propose b_M_propose 8 (some .int) 1 21 [.ref (ad (0)), .int (x)] M (fun v M' => v = some (.int (nI 0)) ∧ M' = pu M 0 0 (nI 1)) := by
  refine MC.of (by decide) (Nat.le_of_ble_eq_true rfl) ?_
  intro p e s m below meth c ls hx hb hr hml hown hg hlocks hK hN hP hS hl
  have hown : s.vm.findClass R_M = some m.cls := hown
  have hl : lv_has ls 8 [(0, .ref (ad (0))), (1, .int (x))] := hl
  have hn60 : n ≤ 60 := hR.1
  refine lv_aload_n hx hb d_M_propose_0 rfl (lv_at hl 0 rfl) ?_
  refine lv_aload_n hx hb d_M_propose_1 rfl (lv_at hl 0 rfl) ?_
  refine lv_iload_n hx hb d_M_propose_2 rfl (lv_at hl 1 rfl) ?_
  refine c_V (own := R_M) (index := 89) (As := [.int (x)]) (rest := [.ref (ad (0))]) hx hb hml hown hg hK (fun _ _ _ h => h) (fun _ _ => trivial) (fun _ h => h) hP hS 0 (c_M_no l D cI cB ad hI M n len ch sp hR (x) true (no_t hbad)) (by decide) (ci := 8) rfl rfl k_907 k_909 k_p30 k_9 k_910 1 rfl (by decide +kernel) (by decide) rfl hl.1 (Nat.le_of_ble_eq_true rfl) d_M_propose_3 (fun v M' H locs hq hP _ _ hS => ?_)
  obtain ⟨rfl, rfl⟩ := hq
  refine W.eq (g2 := F0 m 6 ls [.int (bI (true)), .ref (ad (0))]) rfl ?_
  refine z_eq (t := true) (tgt := 13) hx hb d_M_propose_6 (by decide) (fun h9 => absurd h9 (by decide)) (fun _ => ?_)
  refine n_const (k := 1) hx hb d_M_propose_9 (by decide) ?_
  refine lv_goto (tgt := 14) hx hb d_M_propose_10 (by decide) ?_
  refine c_V (own := R_M) (index := 57) (As := [.int (nI (1))]) (rest := []) hx hb hml hown hg hK (fun _ _ _ h => h) (fun _ _ => trivial) (fun _ h => h) hP hS 0 (c_M_refuses l D cI cB ad hI M (1) (by decide)) (by decide) (ci := 8) rfl rfl k_859 k_861 k_p22 k_9 k_862 1 rfl (by decide +kernel) (by decide) rfl hl.1 (Nat.le_of_ble_eq_true rfl) d_M_propose_14 (fun v M_1 H locs hq hP _ _ hS => ?_)
  obtain ⟨rfl, eM_1⟩ := hq
  refine W.eq (g2 := F0 m 17 ls [.int (bI (true))]) rfl ?_
  refine z_eq (t := true) (tgt := 22) hx hb d_M_propose_17 (by decide) (fun h9 => absurd h9 (by decide)) (fun _ => ?_)
  refine n_const (k := 0) hx hb d_M_propose_20 (by decide) ?_
  exact r_i hx hb hr hlocks hP hS (⟨rfl, eM_1⟩) d_M_propose_21

set_option maxHeartbeats 4000000 in
set_option maxRecDepth 100000 in
theorem c_M_print_1 (l : Launch) (D : va_G) (cI cB : ClassId) (ad : Nat → Nat) (hI : GI 13 ad) (M : PM) (n : Nat) (len : Nat → Nat) (ch : Nat → Nat → Nat) (sp : Nat → Option Nat) (hR : RN M n len ch sp) (x : Int32) (hbad : ¬ ∃ j, j < n ∧ x = nI j) : MM l D cI cB ad y_M_print b_M_print 5 (some .int) 1 21 [.ref (ad (0)), .int (x)] M (fun v M' => v = some (.int (nI 0)) ∧ M' = pu M 0 0 (nI 1)) := by
  refine MC.of (by decide) (Nat.le_of_ble_eq_true rfl) ?_
  intro p e s m below meth c ls hx hb hr hml hown hg hlocks hK hN hP hS hl
  have hown : s.vm.findClass R_M = some m.cls := hown
  have hl : lv_has ls 5 [(0, .ref (ad (0))), (1, .int (x))] := hl
  have hn60 : n ≤ 60 := hR.1
  refine lv_aload_n hx hb d_M_print_0 rfl (lv_at hl 0 rfl) ?_
  refine lv_aload_n hx hb d_M_print_1 rfl (lv_at hl 0 rfl) ?_
  refine lv_iload_n hx hb d_M_print_2 rfl (lv_at hl 1 rfl) ?_
  refine c_V (own := R_M) (index := 89) (As := [.int (x)]) (rest := [.ref (ad (0))]) hx hb hml hown hg hK (fun _ _ _ h => h) (fun _ _ => trivial) (fun _ h => h) hP hS 0 (c_M_no l D cI cB ad hI M n len ch sp hR (x) true (no_t hbad)) (by decide) (ci := 8) rfl rfl k_907 k_909 k_p30 k_9 k_910 1 rfl (by decide +kernel) (by decide) rfl hl.1 (Nat.le_of_ble_eq_true rfl) d_M_print_3 (fun v M' H locs hq hP _ _ hS => ?_)
  obtain ⟨rfl, rfl⟩ := hq
  refine W.eq (g2 := F0 m 6 ls [.int (bI (true)), .ref (ad (0))]) rfl ?_
  refine z_eq (t := true) (tgt := 13) hx hb d_M_print_6 (by decide) (fun h9 => absurd h9 (by decide)) (fun _ => ?_)
  refine n_const (k := 1) hx hb d_M_print_9 (by decide) ?_
  refine lv_goto (tgt := 14) hx hb d_M_print_10 (by decide) ?_
  refine c_V (own := R_M) (index := 57) (As := [.int (nI (1))]) (rest := []) hx hb hml hown hg hK (fun _ _ _ h => h) (fun _ _ => trivial) (fun _ h => h) hP hS 0 (c_M_refuses l D cI cB ad hI M (1) (by decide)) (by decide) (ci := 8) rfl rfl k_859 k_861 k_p22 k_9 k_862 1 rfl (by decide +kernel) (by decide) rfl hl.1 (Nat.le_of_ble_eq_true rfl) d_M_print_14 (fun v M_1 H locs hq hP _ _ hS => ?_)
  obtain ⟨rfl, eM_1⟩ := hq
  refine W.eq (g2 := F0 m 17 ls [.int (bI (true))]) rfl ?_
  refine z_eq (t := true) (tgt := 22) hx hb d_M_print_17 (by decide) (fun h9 => absurd h9 (by decide)) (fun _ => ?_)
  refine n_const (k := 0) hx hb d_M_print_20 (by decide) ?_
  exact r_i hx hb hr hlocks hP hS (⟨rfl, eM_1⟩) d_M_print_21

set_option maxHeartbeats 4000000 in
set_option maxRecDepth 100000 in
theorem c_M_use_1 (l : Launch) (D : va_G) (cI cB : ClassId) (ad : Nat → Nat) (hI : GI 13 ad) (M : PM) (n : Nat) (len : Nat → Nat) (ch : Nat → Nat → Nat) (sp : Nat → Option Nat) (hR : RN M n len ch sp) (x : Int32) (hbad : ¬ ∃ j, j < n ∧ x = nI j) : MM l D cI cB ad y_M_use b_M_use 2 (some .int) 1 21 [.ref (ad (0)), .int (x)] M (fun v M' => v = some (.int (nI 0)) ∧ M' = pu M 0 0 (nI 1)) := by
  refine MC.of (by decide) (Nat.le_of_ble_eq_true rfl) ?_
  intro p e s m below meth c ls hx hb hr hml hown hg hlocks hK hN hP hS hl
  have hown : s.vm.findClass R_M = some m.cls := hown
  have hl : lv_has ls 2 [(0, .ref (ad (0))), (1, .int (x))] := hl
  have hn60 : n ≤ 60 := hR.1
  refine lv_aload_n hx hb d_M_use_0 rfl (lv_at hl 0 rfl) ?_
  refine lv_aload_n hx hb d_M_use_1 rfl (lv_at hl 0 rfl) ?_
  refine lv_iload_n hx hb d_M_use_2 rfl (lv_at hl 1 rfl) ?_
  refine c_V (own := R_M) (index := 89) (As := [.int (x)]) (rest := [.ref (ad (0))]) hx hb hml hown hg hK (fun _ _ _ h => h) (fun _ _ => trivial) (fun _ h => h) hP hS 0 (c_M_no l D cI cB ad hI M n len ch sp hR (x) true (no_t hbad)) (by decide) (ci := 8) rfl rfl k_907 k_909 k_p30 k_9 k_910 1 rfl (by decide +kernel) (by decide) rfl hl.1 (Nat.le_of_ble_eq_true rfl) d_M_use_3 (fun v M' H locs hq hP _ _ hS => ?_)
  obtain ⟨rfl, rfl⟩ := hq
  refine W.eq (g2 := F0 m 6 ls [.int (bI (true)), .ref (ad (0))]) rfl ?_
  refine z_eq (t := true) (tgt := 13) hx hb d_M_use_6 (by decide) (fun h9 => absurd h9 (by decide)) (fun _ => ?_)
  refine n_const (k := 1) hx hb d_M_use_9 (by decide) ?_
  refine lv_goto (tgt := 14) hx hb d_M_use_10 (by decide) ?_
  refine c_V (own := R_M) (index := 57) (As := [.int (nI (1))]) (rest := []) hx hb hml hown hg hK (fun _ _ _ h => h) (fun _ _ => trivial) (fun _ h => h) hP hS 0 (c_M_refuses l D cI cB ad hI M (1) (by decide)) (by decide) (ci := 8) rfl rfl k_859 k_861 k_p22 k_9 k_862 1 rfl (by decide +kernel) (by decide) rfl hl.1 (Nat.le_of_ble_eq_true rfl) d_M_use_14 (fun v M_1 H locs hq hP _ _ hS => ?_)
  obtain ⟨rfl, eM_1⟩ := hq
  refine W.eq (g2 := F0 m 17 ls [.int (bI (true))]) rfl ?_
  refine z_eq (t := true) (tgt := 24) hx hb d_M_use_17 (by decide) (fun h9 => absurd h9 (by decide)) (fun _ => ?_)
  refine n_const (k := 0) hx hb d_M_use_20 (by decide) ?_
  refine lv_goto (tgt := 35) hx hb d_M_use_21 (by decide) ?_
  exact r_i hx hb hr hlocks hP hS (⟨rfl, eM_1⟩) d_M_use_35

set_option maxHeartbeats 4000000 in
set_option maxRecDepth 100000 in
theorem c_M_used_1 (l : Launch) (D : va_G) (cI cB : ClassId) (ad : Nat → Nat) (hI : GI 13 ad) (M : PM) (n : Nat) (len : Nat → Nat) (ch : Nat → Nat → Nat) (sp : Nat → Option Nat) (hR : RN M n len ch sp) (x : Int32) (hbad : ¬ ∃ j, j < n ∧ x = nI j) : MM l D cI cB ad y_M_used b_M_used 2 (some .int) 1 21 [.ref (ad (0)), .int (x)] M (fun v M' => v = some (.int (nI 0)) ∧ M' = pu M 0 0 (nI 1)) := by
  refine MC.of (by decide) (Nat.le_of_ble_eq_true rfl) ?_
  intro p e s m below meth c ls hx hb hr hml hown hg hlocks hK hN hP hS hl
  have hown : s.vm.findClass R_M = some m.cls := hown
  have hl : lv_has ls 2 [(0, .ref (ad (0))), (1, .int (x))] := hl
  have hn60 : n ≤ 60 := hR.1
  refine lv_aload_n hx hb d_M_used_0 rfl (lv_at hl 0 rfl) ?_
  refine lv_aload_n hx hb d_M_used_1 rfl (lv_at hl 0 rfl) ?_
  refine lv_iload_n hx hb d_M_used_2 rfl (lv_at hl 1 rfl) ?_
  refine c_V (own := R_M) (index := 89) (As := [.int (x)]) (rest := [.ref (ad (0))]) hx hb hml hown hg hK (fun _ _ _ h => h) (fun _ _ => trivial) (fun _ h => h) hP hS 0 (c_M_no l D cI cB ad hI M n len ch sp hR (x) true (no_t hbad)) (by decide) (ci := 8) rfl rfl k_907 k_909 k_p30 k_9 k_910 1 rfl (by decide +kernel) (by decide) rfl hl.1 (Nat.le_of_ble_eq_true rfl) d_M_used_3 (fun v M' H locs hq hP _ _ hS => ?_)
  obtain ⟨rfl, rfl⟩ := hq
  refine W.eq (g2 := F0 m 6 ls [.int (bI (true)), .ref (ad (0))]) rfl ?_
  refine z_eq (t := true) (tgt := 13) hx hb d_M_used_6 (by decide) (fun h9 => absurd h9 (by decide)) (fun _ => ?_)
  refine n_const (k := 1) hx hb d_M_used_9 (by decide) ?_
  refine lv_goto (tgt := 14) hx hb d_M_used_10 (by decide) ?_
  refine c_V (own := R_M) (index := 57) (As := [.int (nI (1))]) (rest := []) hx hb hml hown hg hK (fun _ _ _ h => h) (fun _ _ => trivial) (fun _ h => h) hP hS 0 (c_M_refuses l D cI cB ad hI M (1) (by decide)) (by decide) (ci := 8) rfl rfl k_859 k_861 k_p22 k_9 k_862 1 rfl (by decide +kernel) (by decide) rfl hl.1 (Nat.le_of_ble_eq_true rfl) d_M_used_14 (fun v M_1 H locs hq hP _ _ hS => ?_)
  obtain ⟨rfl, eM_1⟩ := hq
  refine W.eq (g2 := F0 m 17 ls [.int (bI (true))]) rfl ?_
  refine z_eq (t := true) (tgt := 24) hx hb d_M_used_17 (by decide) (fun h9 => absurd h9 (by decide)) (fun _ => ?_)
  refine n_const (k := 0) hx hb d_M_used_20 (by decide) ?_
  refine lv_goto (tgt := 30) hx hb d_M_used_21 (by decide) ?_
  exact r_i hx hb hr hlocks hP hS (⟨rfl, eM_1⟩) d_M_used_30

set_option maxHeartbeats 4000000 in
set_option maxRecDepth 100000 in
theorem c_M_meaning_1 (l : Launch) (D : va_G) (cI cB : ClassId) (ad : Nat → Nat) (hI : GI 13 ad) (M : PM) (n : Nat) (len : Nat → Nat) (ch : Nat → Nat → Nat) (sp : Nat → Option Nat) (hR : RN M n len ch sp) (x : Int32) (hbad : ¬ ∃ j, j < n ∧ x = nI j) : MM l D cI cB ad y_M_meaning b_M_meaning 3 (some .int) 1 21 [.ref (ad (0)), .int (x)] M (fun v M' => v = some (.int (nI 0)) ∧ M' = pu M 0 0 (nI 1)) := by
  refine MC.of (by decide) (Nat.le_of_ble_eq_true rfl) ?_
  intro p e s m below meth c ls hx hb hr hml hown hg hlocks hK hN hP hS hl
  have hown : s.vm.findClass R_M = some m.cls := hown
  have hl : lv_has ls 3 [(0, .ref (ad (0))), (1, .int (x))] := hl
  have hn60 : n ≤ 60 := hR.1
  refine lv_aload_n hx hb d_M_meaning_0 rfl (lv_at hl 0 rfl) ?_
  refine lv_aload_n hx hb d_M_meaning_1 rfl (lv_at hl 0 rfl) ?_
  refine lv_iload_n hx hb d_M_meaning_2 rfl (lv_at hl 1 rfl) ?_
  refine c_V (own := R_M) (index := 89) (As := [.int (x)]) (rest := [.ref (ad (0))]) hx hb hml hown hg hK (fun _ _ _ h => h) (fun _ _ => trivial) (fun _ h => h) hP hS 0 (c_M_no l D cI cB ad hI M n len ch sp hR (x) true (no_t hbad)) (by decide) (ci := 8) rfl rfl k_907 k_909 k_p30 k_9 k_910 1 rfl (by decide +kernel) (by decide) rfl hl.1 (Nat.le_of_ble_eq_true rfl) d_M_meaning_3 (fun v M' H locs hq hP _ _ hS => ?_)
  obtain ⟨rfl, rfl⟩ := hq
  refine W.eq (g2 := F0 m 6 ls [.int (bI (true)), .ref (ad (0))]) rfl ?_
  refine z_eq (t := true) (tgt := 13) hx hb d_M_meaning_6 (by decide) (fun h9 => absurd h9 (by decide)) (fun _ => ?_)
  refine n_const (k := 1) hx hb d_M_meaning_9 (by decide) ?_
  refine lv_goto (tgt := 14) hx hb d_M_meaning_10 (by decide) ?_
  refine c_V (own := R_M) (index := 57) (As := [.int (nI (1))]) (rest := []) hx hb hml hown hg hK (fun _ _ _ h => h) (fun _ _ => trivial) (fun _ h => h) hP hS 0 (c_M_refuses l D cI cB ad hI M (1) (by decide)) (by decide) (ci := 8) rfl rfl k_859 k_861 k_p22 k_9 k_862 1 rfl (by decide +kernel) (by decide) rfl hl.1 (Nat.le_of_ble_eq_true rfl) d_M_meaning_14 (fun v M_1 H locs hq hP _ _ hS => ?_)
  obtain ⟨rfl, eM_1⟩ := hq
  refine W.eq (g2 := F0 m 17 ls [.int (bI (true))]) rfl ?_
  refine z_eq (t := true) (tgt := 22) hx hb d_M_meaning_17 (by decide) (fun h9 => absurd h9 (by decide)) (fun _ => ?_)
  refine n_const (k := 0) hx hb d_M_meaning_20 (by decide) ?_
  exact r_i hx hb hr hlocks hP hS (⟨rfl, eM_1⟩) d_M_meaning_21

set_option maxHeartbeats 4000000 in
set_option maxRecDepth 100000 in
theorem c_M_now_1 (l : Launch) (D : va_G) (cI cB : ClassId) (ad : Nat → Nat) (hI : GI 13 ad) (M : PM) (n : Nat) (len : Nat → Nat) (ch : Nat → Nat → Nat) (sp : Nat → Option Nat) (hR : RN M n len ch sp) (x : Int32) (hbad : ¬ ∃ j, j < n ∧ x = nI j) : MM l D cI cB ad y_M_now b_M_now 4 (some .int) 1 21 [.ref (ad (0)), .int (x)] M (fun v M' => v = some (.int (nI 0)) ∧ M' = pu M 0 0 (nI 1)) := by
  refine MC.of (by decide) (Nat.le_of_ble_eq_true rfl) ?_
  intro p e s m below meth c ls hx hb hr hml hown hg hlocks hK hN hP hS hl
  have hown : s.vm.findClass R_M = some m.cls := hown
  have hl : lv_has ls 4 [(0, .ref (ad (0))), (1, .int (x))] := hl
  have hn60 : n ≤ 60 := hR.1
  refine lv_aload_n hx hb d_M_now_0 rfl (lv_at hl 0 rfl) ?_
  refine lv_aload_n hx hb d_M_now_1 rfl (lv_at hl 0 rfl) ?_
  refine lv_iload_n hx hb d_M_now_2 rfl (lv_at hl 1 rfl) ?_
  refine c_V (own := R_M) (index := 89) (As := [.int (x)]) (rest := [.ref (ad (0))]) hx hb hml hown hg hK (fun _ _ _ h => h) (fun _ _ => trivial) (fun _ h => h) hP hS 0 (c_M_no l D cI cB ad hI M n len ch sp hR (x) true (no_t hbad)) (by decide) (ci := 8) rfl rfl k_907 k_909 k_p30 k_9 k_910 1 rfl (by decide +kernel) (by decide) rfl hl.1 (Nat.le_of_ble_eq_true rfl) d_M_now_3 (fun v M' H locs hq hP _ _ hS => ?_)
  obtain ⟨rfl, rfl⟩ := hq
  refine W.eq (g2 := F0 m 6 ls [.int (bI (true)), .ref (ad (0))]) rfl ?_
  refine z_eq (t := true) (tgt := 13) hx hb d_M_now_6 (by decide) (fun h9 => absurd h9 (by decide)) (fun _ => ?_)
  refine n_const (k := 1) hx hb d_M_now_9 (by decide) ?_
  refine lv_goto (tgt := 14) hx hb d_M_now_10 (by decide) ?_
  refine c_V (own := R_M) (index := 57) (As := [.int (nI (1))]) (rest := []) hx hb hml hown hg hK (fun _ _ _ h => h) (fun _ _ => trivial) (fun _ h => h) hP hS 0 (c_M_refuses l D cI cB ad hI M (1) (by decide)) (by decide) (ci := 8) rfl rfl k_859 k_861 k_p22 k_9 k_862 1 rfl (by decide +kernel) (by decide) rfl hl.1 (Nat.le_of_ble_eq_true rfl) d_M_now_14 (fun v M_1 H locs hq hP _ _ hS => ?_)
  obtain ⟨rfl, eM_1⟩ := hq
  refine W.eq (g2 := F0 m 17 ls [.int (bI (true))]) rfl ?_
  refine z_eq (t := true) (tgt := 22) hx hb d_M_now_17 (by decide) (fun h9 => absurd h9 (by decide)) (fun _ => ?_)
  refine n_const (k := 0) hx hb d_M_now_20 (by decide) ?_
  exact r_i hx hb hr hlocks hP hS (⟨rfl, eM_1⟩) d_M_now_21

set_option maxHeartbeats 4000000 in
set_option maxRecDepth 100000 in
theorem c_M_was_1 (l : Launch) (D : va_G) (cI cB : ClassId) (ad : Nat → Nat) (hI : GI 13 ad) (M : PM) (n : Nat) (len : Nat → Nat) (ch : Nat → Nat → Nat) (sp : Nat → Option Nat) (hR : RN M n len ch sp) (x : Int32) (hbad : ¬ ∃ j, j < n ∧ x = nI j) : MM l D cI cB ad y_M_was b_M_was 4 (some .int) 1 21 [.ref (ad (0)), .int (x)] M (fun v M' => v = some (.int (nI 0)) ∧ M' = pu M 0 0 (nI 1)) := by
  refine MC.of (by decide) (Nat.le_of_ble_eq_true rfl) ?_
  intro p e s m below meth c ls hx hb hr hml hown hg hlocks hK hN hP hS hl
  have hown : s.vm.findClass R_M = some m.cls := hown
  have hl : lv_has ls 4 [(0, .ref (ad (0))), (1, .int (x))] := hl
  have hn60 : n ≤ 60 := hR.1
  refine lv_aload_n hx hb d_M_was_0 rfl (lv_at hl 0 rfl) ?_
  refine lv_aload_n hx hb d_M_was_1 rfl (lv_at hl 0 rfl) ?_
  refine lv_iload_n hx hb d_M_was_2 rfl (lv_at hl 1 rfl) ?_
  refine c_V (own := R_M) (index := 89) (As := [.int (x)]) (rest := [.ref (ad (0))]) hx hb hml hown hg hK (fun _ _ _ h => h) (fun _ _ => trivial) (fun _ h => h) hP hS 0 (c_M_no l D cI cB ad hI M n len ch sp hR (x) true (no_t hbad)) (by decide) (ci := 8) rfl rfl k_907 k_909 k_p30 k_9 k_910 1 rfl (by decide +kernel) (by decide) rfl hl.1 (Nat.le_of_ble_eq_true rfl) d_M_was_3 (fun v M' H locs hq hP _ _ hS => ?_)
  obtain ⟨rfl, rfl⟩ := hq
  refine W.eq (g2 := F0 m 6 ls [.int (bI (true)), .ref (ad (0))]) rfl ?_
  refine z_eq (t := true) (tgt := 13) hx hb d_M_was_6 (by decide) (fun h9 => absurd h9 (by decide)) (fun _ => ?_)
  refine n_const (k := 1) hx hb d_M_was_9 (by decide) ?_
  refine lv_goto (tgt := 14) hx hb d_M_was_10 (by decide) ?_
  refine c_V (own := R_M) (index := 57) (As := [.int (nI (1))]) (rest := []) hx hb hml hown hg hK (fun _ _ _ h => h) (fun _ _ => trivial) (fun _ h => h) hP hS 0 (c_M_refuses l D cI cB ad hI M (1) (by decide)) (by decide) (ci := 8) rfl rfl k_859 k_861 k_p22 k_9 k_862 1 rfl (by decide +kernel) (by decide) rfl hl.1 (Nat.le_of_ble_eq_true rfl) d_M_was_14 (fun v M_1 H locs hq hP _ _ hS => ?_)
  obtain ⟨rfl, eM_1⟩ := hq
  refine W.eq (g2 := F0 m 17 ls [.int (bI (true))]) rfl ?_
  refine z_eq (t := true) (tgt := 22) hx hb d_M_was_17 (by decide) (fun h9 => absurd h9 (by decide)) (fun _ => ?_)
  refine n_const (k := 0) hx hb d_M_was_20 (by decide) ?_
  exact r_i hx hb hr hlocks hP hS (⟨rfl, eM_1⟩) d_M_was_21

set_option maxHeartbeats 4000000 in
set_option maxRecDepth 100000 in
theorem c_M_used (l : Launch) (D : va_G) (cI cB : ClassId) (ad : Nat → Nat) (hI : GI 13 ad) (M : PM) (n : Nat) (len : Nat → Nat) (ch : Nat → Nat → Nat) (sp : Nat → Option Nat) (hR : RN M n len ch sp) (us : Nat → Nat) (hU : RU M n us) (a : Nat) (ha : a < n) : MM l D cI cB ad y_M_used b_M_used 2 (some .int) 1 21 [.ref (ad (0)), .int (nI (a))] M (fun v M' => v = some (.int (nI (us a))) ∧ M' = pu M 0 0 (nI 0)) := by
  refine MC.of (by decide) (Nat.le_of_ble_eq_true rfl) ?_
  intro p e s m below meth c ls hx hb hr hml hown hg hlocks hK hN hP hS hl
  have hown : s.vm.findClass R_M = some m.cls := hown
  have hl : lv_has ls 2 [(0, .ref (ad (0))), (1, .int (nI (a)))] := hl
  have hn60 : n ≤ 60 := hR.1
  refine lv_aload_n hx hb d_M_used_0 rfl (lv_at hl 0 rfl) ?_
  refine lv_aload_n hx hb d_M_used_1 rfl (lv_at hl 0 rfl) ?_
  refine lv_iload_n hx hb d_M_used_2 rfl (lv_at hl 1 rfl) ?_
  refine c_V (own := R_M) (index := 89) (As := [.int (nI (a))]) (rest := [.ref (ad (0))]) hx hb hml hown hg hK (fun _ _ _ h => h) (fun _ _ => trivial) (fun _ h => h) hP hS 0 (c_M_no l D cI cB ad hI M n len ch sp hR (nI (a)) false (no_f (by omega))) (by decide) (ci := 8) rfl rfl k_907 k_909 k_p30 k_9 k_910 1 rfl (by decide +kernel) (by decide) rfl hl.1 (Nat.le_of_ble_eq_true rfl) d_M_used_3 (fun v M' H locs hq hP _ _ hS => ?_)
  obtain ⟨rfl, rfl⟩ := hq
  refine W.eq (g2 := F0 m 6 ls [.int (bI (false)), .ref (ad (0))]) rfl ?_
  refine z_eq (t := false) (tgt := 13) hx hb d_M_used_6 (by decide) (fun _ => ?_) (fun h9 => absurd h9 (by decide))
  refine n_const (k := 0) hx hb d_M_used_13 (by decide) ?_
  refine c_V (own := R_M) (index := 57) (As := [.int (nI (0))]) (rest := []) hx hb hml hown hg hK (fun _ _ _ h => h) (fun _ _ => trivial) (fun _ h => h) hP hS 0 (c_M_refuses l D cI cB ad hI M (0) (by decide)) (by decide) (ci := 8) rfl rfl k_859 k_861 k_p22 k_9 k_862 1 rfl (by decide +kernel) (by decide) rfl hl.1 (Nat.le_of_ble_eq_true rfl) d_M_used_14 (fun v M_1 H locs hq hP _ _ hS => ?_)
  obtain ⟨rfl, eM_1⟩ := hq
  refine W.eq (g2 := F0 m 17 ls [.int (bI (false))]) rfl ?_
  refine z_eq (t := false) (tgt := 24) hx hb d_M_used_17 (by decide) (fun _ => ?_) (fun h9 => absurd h9 (by decide))
  refine lv_aload_n hx hb d_M_used_24 rfl (lv_at hl 0 rfl) ?_
  refine g_get (C := R_M) (T := T_M) (N := 19) (ci := 8) (v := .ref (ad (5))) hx hb hg i_M hown hK hP 0 (by decide) rfl rfl 7 (by decide) (hg _ k_800) rfl d_M_used_25 ?_
  refine lv_iload_n hx hb d_M_used_28 rfl (lv_at hl 1 rfl) ?_
  refine g_iald hx hb hK hP 5 0 (by decide) rfl rfl (by decide) (j := a) (by omega) d_M_used_29 ?_
  refine n_top (y := (nI (us (a)))) (by rw [eM_1, pu_k _ _ _ _ _ (by first | decide | omega)]; exact (hU (a) (by omega)).2) ?_
  exact r_i hx hb hr hlocks hP hS (⟨rfl, eM_1⟩) d_M_used_30

set_option maxHeartbeats 4000000 in
set_option maxRecDepth 100000 in
theorem c_M_use (l : Launch) (D : va_G) (cI cB : ClassId) (ad : Nat → Nat) (hI : GI 13 ad) (M : PM) (n : Nat) (len : Nat → Nat) (ch : Nat → Nat → Nat) (sp : Nat → Option Nat) (hR : RN M n len ch sp) (us : Nat → Nat) (hU : RU M n us) (a : Nat) (ha : a < n) : MM l D cI cB ad y_M_use b_M_use 2 (some .int) 1 21 [.ref (ad (0)), .int (nI (a))] M (fun v M' => v = some (.int (nI (us a + 1))) ∧ M' = pu (pu M 0 0 (nI 0)) 5 a (nI (us a + 1))) := by
  refine MC.of (by decide) (Nat.le_of_ble_eq_true rfl) ?_
  intro p e s m below meth c ls hx hb hr hml hown hg hlocks hK hN hP hS hl
  have hown : s.vm.findClass R_M = some m.cls := hown
  have hl : lv_has ls 2 [(0, .ref (ad (0))), (1, .int (nI (a)))] := hl
  have hn60 : n ≤ 60 := hR.1
  refine lv_aload_n hx hb d_M_use_0 rfl (lv_at hl 0 rfl) ?_
  refine lv_aload_n hx hb d_M_use_1 rfl (lv_at hl 0 rfl) ?_
  refine lv_iload_n hx hb d_M_use_2 rfl (lv_at hl 1 rfl) ?_
  refine c_V (own := R_M) (index := 89) (As := [.int (nI (a))]) (rest := [.ref (ad (0))]) hx hb hml hown hg hK (fun _ _ _ h => h) (fun _ _ => trivial) (fun _ h => h) hP hS 0 (c_M_no l D cI cB ad hI M n len ch sp hR (nI (a)) false (no_f (by omega))) (by decide) (ci := 8) rfl rfl k_907 k_909 k_p30 k_9 k_910 1 rfl (by decide +kernel) (by decide) rfl hl.1 (Nat.le_of_ble_eq_true rfl) d_M_use_3 (fun v M' H locs hq hP _ _ hS => ?_)
  obtain ⟨rfl, rfl⟩ := hq
  refine W.eq (g2 := F0 m 6 ls [.int (bI (false)), .ref (ad (0))]) rfl ?_
  refine z_eq (t := false) (tgt := 13) hx hb d_M_use_6 (by decide) (fun _ => ?_) (fun h9 => absurd h9 (by decide))
  refine n_const (k := 0) hx hb d_M_use_13 (by decide) ?_
  refine c_V (own := R_M) (index := 57) (As := [.int (nI (0))]) (rest := []) hx hb hml hown hg hK (fun _ _ _ h => h) (fun _ _ => trivial) (fun _ h => h) hP hS 0 (c_M_refuses l D cI cB ad hI M (0) (by decide)) (by decide) (ci := 8) rfl rfl k_859 k_861 k_p22 k_9 k_862 1 rfl (by decide +kernel) (by decide) rfl hl.1 (Nat.le_of_ble_eq_true rfl) d_M_use_14 (fun v M_1 H locs hq hP _ _ hS => ?_)
  obtain ⟨rfl, eM_1⟩ := hq
  refine W.eq (g2 := F0 m 17 ls [.int (bI (false))]) rfl ?_
  refine z_eq (t := false) (tgt := 24) hx hb d_M_use_17 (by decide) (fun _ => ?_) (fun h9 => absurd h9 (by decide))
  refine lv_aload_n hx hb d_M_use_24 rfl (lv_at hl 0 rfl) ?_
  refine g_get (C := R_M) (T := T_M) (N := 19) (ci := 8) (v := .ref (ad (5))) hx hb hg i_M hown hK hP 0 (by decide) rfl rfl 7 (by decide) (hg _ k_800) rfl d_M_use_25 ?_
  refine lv_iload_n hx hb d_M_use_28 rfl (lv_at hl 1 rfl) ?_
  refine lv_dup2_11 hx hb d_M_use_29 rfl rfl ?_
  refine g_iald hx hb hK hP 5 0 (by decide) rfl rfl (by decide) (j := a) (by omega) d_M_use_30 ?_
  refine n_top (y := (nI (us (a)))) (by rw [eM_1, pu_k _ _ _ _ _ (by first | decide | omega)]; exact (hU (a) (by omega)).2) ?_
  refine n_const (k := 1) hx hb d_M_use_31 (by decide) ?_
  refine n_iadd (a := us (a)) (b := 1) hx hb d_M_use_32 ?_
  refine lv_dup_x2 hx hb d_M_use_33 rfl rfl rfl ?_
  refine g_iast hx hb hK hI (fun _ h => h) hP hS 5 0 (by decide) (fun _ => rfl) rfl (by decide) (j := a) (by omega) (v := (nI ((us (a)) + (1)))) d_M_use_34 (fun H locs hP hS => ?_)
  obtain ⟨M_2, eM_2⟩ : ∃ z : PM, z = (pu M_1 5 (a) ((nI ((us (a)) + (1))))) := ⟨_, rfl⟩
  rw [← eM_2] at hP
  exact r_i hx hb hr hlocks hP hS (⟨rfl, by rw [eM_2, eM_1]⟩) d_M_use_35

set_option maxHeartbeats 4000000 in
set_option maxRecDepth 100000 in
theorem c_M_now (l : Launch) (D : va_G) (cI cB : ClassId) (ad : Nat → Nat) (hI : GI 13 ad) (M : PM) (n : Nat) (len : Nat → Nat) (ch : Nat → Nat → Nat) (sp : Nat → Option Nat) (hR : RN M n len ch sp) (nc : Nat) (rf rt : Nat → Nat) (hRR : RR M n nc rf rt) (a : Nat) (ha : a < n) : MM l D cI cB ad y_M_now b_M_now 4 (some .int) 1 21 [.ref (ad (0)), .int (nI (a))] M (fun v M' => v = some (.int (nI (nowF rf rt a nc))) ∧ M' = pu M 0 0 (nI 0)) := by
  refine MC.of (by decide) (Nat.le_of_ble_eq_true rfl) ?_
  intro p e s m below meth c ls hx hb hr hml hown hg hlocks hK hN hP hS hl
  have hown : s.vm.findClass R_M = some m.cls := hown
  have hl : lv_has ls 4 [(0, .ref (ad (0))), (1, .int (nI (a)))] := hl
  have hn60 : n ≤ 60 := hR.1
  have hnc : nc ≤ 20 := hRR.1
  have hrf := hRR.2.2
  have J26 : ∀ (fu26 : Nat) (i : Nat) (y : Nat) (M1 : PM) (H : Heap) (locs : List Loc) (ls : Array Slot), nc - i < fu26 → (M1 = pu M 0 0 (nI 0)) → (i ≤ nc) → (y = nowF rf rt a i) → (y < n) → va_P D clsA (gw 13 ad (cfM cI cB ad) M1) H → va_S (GA 13 ad) s.heap H locs → lv_has ls 4 [(0, .ref (ad (0))), (2, .int (nI (y))), (3, .int (nI (i)))] → W p l e (rm_ 1 21) s m ([.ref (ad (0)), .int (nI (a))] : List Value).toArray below meth c H locs 0 0 (MQ below (GQ D 13 ad (cfM cI cB ad) (fun v M' => v = some (.int (nI (nowF rf rt a nc))) ∧ M' = pu M 0 0 (nI 0))) ([.ref (ad (0)), .int (nI (a))] : List Value).toArray s 0 0 (GA 13 ad)) (F0 m 26 ls []) := by
    intro fu26
    induction fu26 with
    | zero => intro i y M1 H locs ls hfu; exact absurd hfu (Nat.not_lt_zero _)
    | succ fu26 ih26 =>
      intro i y M1 H locs ls hfu26 hM1 hi hy hyn hP hS hl
      have h12 : M1 0 12 = nI nc := by rw [hM1, pu_j _ _ _ _ _ (by decide)]; exact hRR.2.1
      have h8 : ∀ q, M1 8 q = M 8 q := fun q => by rw [hM1, pu_k _ _ _ _ _ (by decide)]
      refine lv_iload_n hx hb d_M_now_26 rfl (lv_at hl 2 rfl) ?_
      refine lv_aload_n hx hb d_M_now_27 rfl (lv_at hl 0 rfl) ?_
      refine g_get (C := R_M) (T := T_M) (N := 19) (ci := 8) (v := .int (M1 0 12)) hx hb hg i_M hown hK hP 0 (by decide) rfl rfl 12 (by decide) (hg _ k_805) rfl d_M_now_28 ?_
      refine n_top (y := (nI (nc))) (h12) ?_
      refine n_ge (a := i) (b := nc) (tgt := 67) hx hb d_M_now_31 (by decide) (by omega) (by omega) (fun c_31 => ?_) (fun c_31 => ?_)
      · refine lv_iload_n hx hb d_M_now_67 rfl (lv_at hl 1 rfl) ?_
        exact r_i hx hb hr hlocks hP hS (⟨by rw [hy, show i = nc by omega], hM1⟩) d_M_now_68
      · refine lv_aload_n hx hb d_M_now_34 rfl (lv_at hl 0 rfl) ?_
        refine g_get (C := R_M) (T := T_M) (N := 19) (ci := 8) (v := .ref (ad (8))) hx hb hg i_M hown hK hP 0 (by decide) rfl rfl 11 (by decide) (hg _ k_804) rfl d_M_now_35 ?_
        refine n_const (k := 2) hx hb d_M_now_38 (by decide) ?_
        refine lv_iload_n hx hb d_M_now_39 rfl (lv_at hl 2 rfl) ?_
        refine n_imul (a := 2) (b := i) hx hb d_M_now_40 ?_
        refine g_iald hx hb hK hP 8 0 (by decide) rfl rfl (by decide) (j := (2) * (i)) (by omega) d_M_now_41 ?_
        refine n_top (y := (nI (rf (i)))) (by rw [h8]; exact (hRR.2.2 (i) (by omega)).2.2.1) ?_
        refine lv_iload_n hx hb d_M_now_42 rfl (lv_at hl 1 rfl) ?_
        refine n_ne (a := rf (i)) (b := y) (tgt := 59) hx hb d_M_now_43 (by decide) (by have := hrf i (by omega); omega) (by omega) (fun c_43 => ?_) (fun c_43 => ?_)
        · have hy9 : y = nowF rf rt a (i + 1) := by simp only [nowF]; rw [← hy, if_neg c_43]
          have hyn9 := hyn
          refine lv_iload_n hx hb d_M_now_59 rfl (lv_at hl 1 rfl) ?_
          refine lv_istore_n (lv' := [(2, .int (nI (y))), (0, .ref (ad (0))), (3, .int (nI (i)))]) hx hb d_M_now_60 rfl hl (by decide) rfl (fun ls hl => ?_)
          refine n_inc (lv' := [(3, .int (nI (i + 1))), (2, .int (nI (y))), (0, .ref (ad (0)))]) hx hb d_M_now_61 hl (k := 2) rfl (by decide) rfl (fun ls hl => ?_)
          refine lv_goto (tgt := 26) hx hb d_M_now_64 (by decide) ?_
          exact ih26 (i + 1) (y) M1 _ _ ls (by omega) (hM1) (by omega) (hy9) (hyn9) hP hS (lv_sub hl [2, 1, 0] rfl)
        · have hy9 : rt i = nowF rf rt a (i + 1) := by simp only [nowF]; rw [← hy, if_pos c_43]
          have hyn9 := (hrf i (by omega)).2.1
          refine lv_aload_n hx hb d_M_now_46 rfl (lv_at hl 0 rfl) ?_
          refine g_get (C := R_M) (T := T_M) (N := 19) (ci := 8) (v := .ref (ad (8))) hx hb hg i_M hown hK hP 0 (by decide) rfl rfl 11 (by decide) (hg _ k_804) rfl d_M_now_47 ?_
          refine n_const (k := 2) hx hb d_M_now_50 (by decide) ?_
          refine lv_iload_n hx hb d_M_now_51 rfl (lv_at hl 2 rfl) ?_
          refine n_imul (a := 2) (b := i) hx hb d_M_now_52 ?_
          refine n_const (k := 1) hx hb d_M_now_53 (by decide) ?_
          refine n_iadd (a := (2) * (i)) (b := 1) hx hb d_M_now_54 ?_
          refine g_iald hx hb hK hP 8 0 (by decide) rfl rfl (by decide) (j := ((2) * (i)) + (1)) (by omega) d_M_now_55 ?_
          refine n_top (y := (nI (rt (i)))) (by rw [h8]; exact (hRR.2.2 (i) (by omega)).2.2.2) ?_
          refine lv_goto (tgt := 60) hx hb d_M_now_56 (by decide) ?_
          refine lv_istore_n (lv' := [(2, .int (nI (rt (i)))), (0, .ref (ad (0))), (3, .int (nI (i)))]) hx hb d_M_now_60 rfl hl (by decide) rfl (fun ls hl => ?_)
          refine n_inc (lv' := [(3, .int (nI (i + 1))), (2, .int (nI (rt (i)))), (0, .ref (ad (0)))]) hx hb d_M_now_61 hl (k := 2) rfl (by decide) rfl (fun ls hl => ?_)
          refine lv_goto (tgt := 26) hx hb d_M_now_64 (by decide) ?_
          exact ih26 (i + 1) (rt (i)) M1 _ _ ls (by omega) (hM1) (by omega) (hy9) (hyn9) hP hS (lv_sub hl [2, 1, 0] rfl)
  refine lv_aload_n hx hb d_M_now_0 rfl (lv_at hl 0 rfl) ?_
  refine lv_aload_n hx hb d_M_now_1 rfl (lv_at hl 0 rfl) ?_
  refine lv_iload_n hx hb d_M_now_2 rfl (lv_at hl 1 rfl) ?_
  refine c_V (own := R_M) (index := 89) (As := [.int (nI (a))]) (rest := [.ref (ad (0))]) hx hb hml hown hg hK (fun _ _ _ h => h) (fun _ _ => trivial) (fun _ h => h) hP hS 0 (c_M_no l D cI cB ad hI M n len ch sp hR (nI (a)) false (no_f (by omega))) (by decide) (ci := 8) rfl rfl k_907 k_909 k_p30 k_9 k_910 1 rfl (by decide +kernel) (by decide) rfl hl.1 (Nat.le_of_ble_eq_true rfl) d_M_now_3 (fun v M' H locs hq hP _ _ hS => ?_)
  obtain ⟨rfl, rfl⟩ := hq
  refine W.eq (g2 := F0 m 6 ls [.int (bI (false)), .ref (ad (0))]) rfl ?_
  refine z_eq (t := false) (tgt := 13) hx hb d_M_now_6 (by decide) (fun _ => ?_) (fun h9 => absurd h9 (by decide))
  refine n_const (k := 0) hx hb d_M_now_13 (by decide) ?_
  refine c_V (own := R_M) (index := 57) (As := [.int (nI (0))]) (rest := []) hx hb hml hown hg hK (fun _ _ _ h => h) (fun _ _ => trivial) (fun _ h => h) hP hS 0 (c_M_refuses l D cI cB ad hI M (0) (by decide)) (by decide) (ci := 8) rfl rfl k_859 k_861 k_p22 k_9 k_862 1 rfl (by decide +kernel) (by decide) rfl hl.1 (Nat.le_of_ble_eq_true rfl) d_M_now_14 (fun v M_1 H locs hq hP _ _ hS => ?_)
  obtain ⟨rfl, eM_1⟩ := hq
  refine W.eq (g2 := F0 m 17 ls [.int (bI (false))]) rfl ?_
  refine z_eq (t := false) (tgt := 22) hx hb d_M_now_17 (by decide) (fun _ => ?_) (fun h9 => absurd h9 (by decide))
  refine lv_iload_n hx hb d_M_now_22 rfl (lv_at hl 1 rfl) ?_
  refine lv_istore_n (lv' := [(2, .int (nI (a))), (0, .ref (ad (0))), (1, .int (nI (a)))]) hx hb d_M_now_23 rfl hl (by decide) rfl (fun ls hl => ?_)
  refine n_const (k := 0) hx hb d_M_now_24 (by decide) ?_
  refine lv_istore_n (lv' := [(3, .int (nI (0))), (2, .int (nI (a))), (0, .ref (ad (0))), (1, .int (nI (a)))]) hx hb d_M_now_25 rfl hl (by decide) rfl (fun ls hl => ?_)
  exact J26 (_ + 1) (0) (a) M_1 _ _ ls (Nat.lt_succ_self _) (eM_1) (by omega) (rfl) (by omega) hP hS (lv_sub hl [2, 1, 0] rfl)

set_option maxHeartbeats 4000000 in
set_option maxRecDepth 100000 in
theorem c_M_was (l : Launch) (D : va_G) (cI cB : ClassId) (ad : Nat → Nat) (hI : GI 13 ad) (M : PM) (n : Nat) (len : Nat → Nat) (ch : Nat → Nat → Nat) (sp : Nat → Option Nat) (hR : RN M n len ch sp) (nc : Nat) (rf rt : Nat → Nat) (hRR : RR M n nc rf rt) (a : Nat) (ha : a < n) : MM l D cI cB ad y_M_was b_M_was 4 (some .int) 1 21 [.ref (ad (0)), .int (nI (a))] M (fun v M' => v = some (.int (nI (wasF rf rt nc a))) ∧ M' = pu M 0 0 (nI 0)) := by
  refine MC.of (by decide) (Nat.le_of_ble_eq_true rfl) ?_
  intro p e s m below meth c ls hx hb hr hml hown hg hlocks hK hN hP hS hl
  have hown : s.vm.findClass R_M = some m.cls := hown
  have hl : lv_has ls 4 [(0, .ref (ad (0))), (1, .int (nI (a)))] := hl
  have hn60 : n ≤ 60 := hR.1
  have hnc : nc ≤ 20 := hRR.1
  have hrf := hRR.2.2
  have J31 : ∀ (fu31 : Nat) (i : Nat) (y : Nat) (M1 : PM) (H : Heap) (locs : List Loc) (ls : Array Slot), i < fu31 → (M1 = pu M 0 0 (nI 0)) → (i ≤ nc) → (wasF rf rt i y = wasF rf rt nc a) → (y < n) → va_P D clsA (gw 13 ad (cfM cI cB ad) M1) H → va_S (GA 13 ad) s.heap H locs → lv_has ls 4 [(0, .ref (ad (0))), (2, .int (nI (y))), (3, .int (nI (i) - 1))] → W p l e (rm_ 1 21) s m ([.ref (ad (0)), .int (nI (a))] : List Value).toArray below meth c H locs 0 0 (MQ below (GQ D 13 ad (cfM cI cB ad) (fun v M' => v = some (.int (nI (wasF rf rt nc a))) ∧ M' = pu M 0 0 (nI 0))) ([.ref (ad (0)), .int (nI (a))] : List Value).toArray s 0 0 (GA 13 ad)) (F0 m 31 ls []) := by
    intro fu31
    induction fu31 with
    | zero => intro i y M1 H locs ls hfu; exact absurd hfu (Nat.not_lt_zero _)
    | succ fu31 ih31 =>
      intro i y M1 H locs ls hfu31 hM1 hi hy hyn hP hS hl
      have h12 : M1 0 12 = nI nc := by rw [hM1, pu_j _ _ _ _ _ (by decide)]; exact hRR.2.1
      have h8 : ∀ q, M1 8 q = M 8 q := fun q => by rw [hM1, pu_k _ _ _ _ _ (by decide)]
      refine lv_iload_n hx hb d_M_was_31 rfl (lv_at hl 2 rfl) ?_
      refine lv_if_lt (tgt := 68) hx hb d_M_was_32 (by decide) (fun c_32 => ?_) (fun c_32 => ?_)
      · refine lv_iload_n hx hb d_M_was_68 rfl (lv_at hl 1 rfl) ?_
        exact r_i hx hb hr hlocks hP hS (⟨by rw [← hy, (nI_p0 (by omega)).mp c_32]; rfl, hM1⟩) d_M_was_69
      · obtain ⟨j, rfl⟩ : ∃ j, i = j + 1 := ⟨i - 1, by have : ¬ i = 0 := fun h => c_32 ((nI_p0 (by omega)).mpr h); omega⟩
        rw [nI_pred] at hl
        have hl : lv_has ls 4 [(0, .ref (ad (0))), (2, .int (nI (y))), (3, .int (nI (j)))] := hl
        refine lv_aload_n hx hb d_M_was_35 rfl (lv_at hl 0 rfl) ?_
        refine g_get (C := R_M) (T := T_M) (N := 19) (ci := 8) (v := .ref (ad (8))) hx hb hg i_M hown hK hP 0 (by decide) rfl rfl 11 (by decide) (hg _ k_804) rfl d_M_was_36 ?_
        refine n_const (k := 2) hx hb d_M_was_39 (by decide) ?_
        refine lv_iload_n hx hb d_M_was_40 rfl (lv_at hl 2 rfl) ?_
        refine n_imul (a := 2) (b := j) hx hb d_M_was_41 ?_
        refine n_const (k := 1) hx hb d_M_was_42 (by decide) ?_
        refine n_iadd (a := (2) * (j)) (b := 1) hx hb d_M_was_43 ?_
        refine g_iald hx hb hK hP 8 0 (by decide) rfl rfl (by decide) (j := ((2) * (j)) + (1)) (by omega) d_M_was_44 ?_
        refine n_top (y := (nI (rt (j)))) (by rw [h8]; exact (hRR.2.2 (j) (by omega)).2.2.2) ?_
        refine lv_iload_n hx hb d_M_was_45 rfl (lv_at hl 1 rfl) ?_
        refine n_ne (a := rt (j)) (b := y) (tgt := 60) hx hb d_M_was_46 (by decide) (by have := hrf j (by omega); omega) (by omega) (fun c_46 => ?_) (fun c_46 => ?_)
        · have hy9 : wasF rf rt j y = wasF rf rt nc a := by rw [← hy]; simp only [wasF]; rw [if_neg c_46]
          have hyn9 := hyn
          refine lv_iload_n hx hb d_M_was_60 rfl (lv_at hl 1 rfl) ?_
          refine lv_istore_n (lv' := [(2, .int (nI (y))), (0, .ref (ad (0))), (3, .int (nI (j)))]) hx hb d_M_was_61 rfl hl (by decide) rfl (fun ls hl => ?_)
          refine lv_iinc (v := ((nI (j)) - 1)) (lv' := [(3, .int ((nI (j)) - 1)), (2, .int (nI (y))), (0, .ref (ad (0)))]) hx hb d_M_was_62 hl (k := 2) rfl (decI _) (by decide) rfl (fun ls hl => ?_)
          refine lv_goto (tgt := 31) hx hb d_M_was_65 (by decide) ?_
          exact ih31 (j) (y) M1 _ _ ls (by omega) (hM1) (by omega) (hy9) (hyn9) hP hS (lv_sub hl [2, 1, 0] rfl)
        · have hy9 : wasF rf rt j (rf j) = wasF rf rt nc a := by rw [← hy]; simp only [wasF]; rw [if_pos c_46]
          have hyn9 := (hrf j (by omega)).1
          refine lv_aload_n hx hb d_M_was_49 rfl (lv_at hl 0 rfl) ?_
          refine g_get (C := R_M) (T := T_M) (N := 19) (ci := 8) (v := .ref (ad (8))) hx hb hg i_M hown hK hP 0 (by decide) rfl rfl 11 (by decide) (hg _ k_804) rfl d_M_was_50 ?_
          refine n_const (k := 2) hx hb d_M_was_53 (by decide) ?_
          refine lv_iload_n hx hb d_M_was_54 rfl (lv_at hl 2 rfl) ?_
          refine n_imul (a := 2) (b := j) hx hb d_M_was_55 ?_
          refine g_iald hx hb hK hP 8 0 (by decide) rfl rfl (by decide) (j := (2) * (j)) (by omega) d_M_was_56 ?_
          refine n_top (y := (nI (rf (j)))) (by rw [h8]; exact (hRR.2.2 (j) (by omega)).2.2.1) ?_
          refine lv_goto (tgt := 61) hx hb d_M_was_57 (by decide) ?_
          refine lv_istore_n (lv' := [(2, .int (nI (rf (j)))), (0, .ref (ad (0))), (3, .int (nI (j)))]) hx hb d_M_was_61 rfl hl (by decide) rfl (fun ls hl => ?_)
          refine lv_iinc (v := ((nI (j)) - 1)) (lv' := [(3, .int ((nI (j)) - 1)), (2, .int (nI (rf (j)))), (0, .ref (ad (0)))]) hx hb d_M_was_62 hl (k := 2) rfl (decI _) (by decide) rfl (fun ls hl => ?_)
          refine lv_goto (tgt := 31) hx hb d_M_was_65 (by decide) ?_
          exact ih31 (j) (rf (j)) M1 _ _ ls (by omega) (hM1) (by omega) (hy9) (hyn9) hP hS (lv_sub hl [2, 1, 0] rfl)
  refine lv_aload_n hx hb d_M_was_0 rfl (lv_at hl 0 rfl) ?_
  refine lv_aload_n hx hb d_M_was_1 rfl (lv_at hl 0 rfl) ?_
  refine lv_iload_n hx hb d_M_was_2 rfl (lv_at hl 1 rfl) ?_
  refine c_V (own := R_M) (index := 89) (As := [.int (nI (a))]) (rest := [.ref (ad (0))]) hx hb hml hown hg hK (fun _ _ _ h => h) (fun _ _ => trivial) (fun _ h => h) hP hS 0 (c_M_no l D cI cB ad hI M n len ch sp hR (nI (a)) false (no_f (by omega))) (by decide) (ci := 8) rfl rfl k_907 k_909 k_p30 k_9 k_910 1 rfl (by decide +kernel) (by decide) rfl hl.1 (Nat.le_of_ble_eq_true rfl) d_M_was_3 (fun v M' H locs hq hP _ _ hS => ?_)
  obtain ⟨rfl, rfl⟩ := hq
  refine W.eq (g2 := F0 m 6 ls [.int (bI (false)), .ref (ad (0))]) rfl ?_
  refine z_eq (t := false) (tgt := 13) hx hb d_M_was_6 (by decide) (fun _ => ?_) (fun h9 => absurd h9 (by decide))
  refine n_const (k := 0) hx hb d_M_was_13 (by decide) ?_
  refine c_V (own := R_M) (index := 57) (As := [.int (nI (0))]) (rest := []) hx hb hml hown hg hK (fun _ _ _ h => h) (fun _ _ => trivial) (fun _ h => h) hP hS 0 (c_M_refuses l D cI cB ad hI M (0) (by decide)) (by decide) (ci := 8) rfl rfl k_859 k_861 k_p22 k_9 k_862 1 rfl (by decide +kernel) (by decide) rfl hl.1 (Nat.le_of_ble_eq_true rfl) d_M_was_14 (fun v M_1 H locs hq hP _ _ hS => ?_)
  obtain ⟨rfl, eM_1⟩ := hq
  refine W.eq (g2 := F0 m 17 ls [.int (bI (false))]) rfl ?_
  refine z_eq (t := false) (tgt := 22) hx hb d_M_was_17 (by decide) (fun _ => ?_) (fun h9 => absurd h9 (by decide))
  refine lv_iload_n hx hb d_M_was_22 rfl (lv_at hl 1 rfl) ?_
  refine lv_istore_n (lv' := [(2, .int (nI (a))), (0, .ref (ad (0))), (1, .int (nI (a)))]) hx hb d_M_was_23 rfl hl (by decide) rfl (fun ls hl => ?_)
  refine lv_aload_n hx hb d_M_was_24 rfl (lv_at hl 1 rfl) ?_
  refine g_get (C := R_M) (T := T_M) (N := 19) (ci := 8) (v := .int (M_1 0 12)) hx hb hg i_M hown hK hP 0 (by decide) rfl rfl 12 (by decide) (hg _ k_805) rfl d_M_was_25 ?_
  refine n_top (y := (nI (nc))) (by rw [eM_1, pu_j _ _ _ _ _ (by first | decide | omega)]; exact hRR.2.1) ?_
  refine n_const (k := 1) hx hb d_M_was_28 (by decide) ?_
  refine lv_isub hx hb d_M_was_29 ?_
  refine n_top (y := nI (nc) - 1) rfl ?_
  refine lv_istore_n (lv' := [(3, .int (nI (nc) - 1)), (2, .int (nI (a))), (0, .ref (ad (0))), (1, .int (nI (a)))]) hx hb d_M_was_30 rfl hl (by decide) rfl (fun ls hl => ?_)
  exact J31 (_ + 1) (nc) (a) M_1 _ _ ls (Nat.lt_succ_self _) (eM_1) (by omega) (rfl) (by omega) hP hS (lv_sub hl [2, 1, 0] rfl)

set_option maxHeartbeats 4000000 in
set_option maxRecDepth 100000 in
theorem c_M_type_1 (l : Launch) (D : va_G) (cI cB : ClassId) (ad : Nat → Nat) (hI : GI 13 ad) (M : PM) (tl : Nat) (tc : Nat → Nat) (hT : RT M tl tc) (x : Int32) (hbad : ¬ ∃ c, 33 ≤ c ∧ c ≤ 126 ∧ x = nI c) : MM l D cI cB ad y_M_type b_M_type 2 (some .int) 1 21 [.ref (ad (0)), .int (x)] M (fun v M' => v = some (.int (nI 0)) ∧ M' = pu M 0 0 (nI 1)) := by
  refine MC.of (by decide) (Nat.le_of_ble_eq_true rfl) ?_
  intro p e s m below meth c ls hx hb hr hml hown hg hlocks hK hN hP hS hl
  have hown : s.vm.findClass R_M = some m.cls := hown
  have hl : lv_has ls 2 [(0, .ref (ad (0))), (1, .int (x))] := hl
  refine lv_aload_n hx hb d_M_type_0 rfl (lv_at hl 0 rfl) ?_
  refine lv_iload_n hx hb d_M_type_1 rfl (lv_at hl 1 rfl) ?_
  refine n_bipush (k := 33) hx hb d_M_type_2 (by decide) ?_
  refine lv_icmp_lt (tgt := 13) hx hb d_M_type_4 (by decide) (fun c_4 => ?_) (fun c_4 => ?_)
  · refine n_const (k := 1) hx hb d_M_type_13 (by decide) ?_
    refine lv_goto (tgt := 31) hx hb d_M_type_14 (by decide) ?_
    refine c_V (own := R_M) (index := 57) (As := [.int (nI (1))]) (rest := []) hx hb hml hown hg hK (fun _ _ _ h => h) (fun _ _ => trivial) (fun _ h => h) hP hS 0 (c_M_refuses l D cI cB ad hI M (1) (by decide)) (by decide) (ci := 8) rfl rfl k_859 k_861 k_p22 k_9 k_862 1 rfl (by decide +kernel) (by decide) rfl hl.1 (Nat.le_of_ble_eq_true rfl) d_M_type_31 (fun v M_1 H locs hq hP _ _ hS => ?_)
    obtain ⟨rfl, eM_1⟩ := hq
    refine W.eq (g2 := F0 m 34 ls [.int (bI (true))]) rfl ?_
    refine z_eq (t := true) (tgt := 39) hx hb d_M_type_34 (by decide) (fun h9 => absurd h9 (by decide)) (fun _ => ?_)
    refine n_const (k := 0) hx hb d_M_type_37 (by decide) ?_
    exact r_i hx hb hr hlocks hP hS (⟨rfl, eM_1⟩) d_M_type_38
  · refine lv_iload_n hx hb d_M_type_7 rfl (lv_at hl 1 rfl) ?_
    refine n_bipush (k := 126) hx hb d_M_type_8 (by decide) ?_
    refine lv_icmp_le (tgt := 17) hx hb d_M_type_10 (by decide) (fun c_10 => ?_) (fun c_10 => ?_)
    · exact absurd (rng (by decide) c_4 c_10 (by decide)) hbad
    · refine n_const (k := 1) hx hb d_M_type_13 (by decide) ?_
      refine lv_goto (tgt := 31) hx hb d_M_type_14 (by decide) ?_
      refine c_V (own := R_M) (index := 57) (As := [.int (nI (1))]) (rest := []) hx hb hml hown hg hK (fun _ _ _ h => h) (fun _ _ => trivial) (fun _ h => h) hP hS 0 (c_M_refuses l D cI cB ad hI M (1) (by decide)) (by decide) (ci := 8) rfl rfl k_859 k_861 k_p22 k_9 k_862 1 rfl (by decide +kernel) (by decide) rfl hl.1 (Nat.le_of_ble_eq_true rfl) d_M_type_31 (fun v M_2 H locs hq hP _ _ hS => ?_)
      obtain ⟨rfl, eM_2⟩ := hq
      refine W.eq (g2 := F0 m 34 ls [.int (bI (true))]) rfl ?_
      refine z_eq (t := true) (tgt := 39) hx hb d_M_type_34 (by decide) (fun h9 => absurd h9 (by decide)) (fun _ => ?_)
      refine n_const (k := 0) hx hb d_M_type_37 (by decide) ?_
      exact r_i hx hb hr hlocks hP hS (⟨rfl, eM_2⟩) d_M_type_38

set_option maxHeartbeats 4000000 in
set_option maxRecDepth 100000 in
theorem c_M_type_2 (l : Launch) (D : va_G) (cI cB : ClassId) (ad : Nat → Nat) (hI : GI 13 ad) (M : PM) (tl : Nat) (tc : Nat → Nat) (hT : RT M tl tc) (c9 : Nat) (h1 : 33 ≤ c9) (h2 : c9 ≤ 126) (h3 : tl = 24) : MM l D cI cB ad y_M_type b_M_type 2 (some .int) 1 21 [.ref (ad (0)), .int (nI (c9))] M (fun v M' => v = some (.int (nI 0)) ∧ M' = pu M 0 0 (nI 2)) := by
  refine MC.of (by decide) (Nat.le_of_ble_eq_true rfl) ?_
  intro p e s m below meth c ls hx hb hr hml hown hg hlocks hK hN hP hS hl
  have hown : s.vm.findClass R_M = some m.cls := hown
  have hl : lv_has ls 2 [(0, .ref (ad (0))), (1, .int (nI (c9)))] := hl
  refine lv_aload_n hx hb d_M_type_0 rfl (lv_at hl 0 rfl) ?_
  refine lv_iload_n hx hb d_M_type_1 rfl (lv_at hl 1 rfl) ?_
  refine n_bipush (k := 33) hx hb d_M_type_2 (by decide) ?_
  refine n_lt (a := c9) (b := 33) (tgt := 13) hx hb d_M_type_4 (by decide) (by omega) (by omega) (fun c_4 => ?_) (fun c_4 => ?_)
  · exact absurd c_4 (by omega)
  · refine lv_iload_n hx hb d_M_type_7 rfl (lv_at hl 1 rfl) ?_
    refine n_bipush (k := 126) hx hb d_M_type_8 (by decide) ?_
    refine n_le (a := c9) (b := 126) (tgt := 17) hx hb d_M_type_10 (by decide) (by omega) (by omega) (fun c_10 => ?_) (fun c_10 => ?_)
    · refine lv_aload_n hx hb d_M_type_17 rfl (lv_at hl 0 rfl) ?_
      refine g_get (C := R_M) (T := T_M) (N := 19) (ci := 8) (v := .int (M 0 2)) hx hb hg i_M hown hK hP 0 (by decide) rfl rfl 2 (by decide) (hg _ k_795) rfl d_M_type_18 ?_
      refine n_top (y := (nI (tl))) (hT.2.1) ?_
      refine n_bipush (k := 24) hx hb d_M_type_21 (by decide) ?_
      refine n_ne (a := tl) (b := 24) (tgt := 30) hx hb d_M_type_23 (by decide) (by omega) (by omega) (fun c_23 => ?_) (fun c_23 => ?_)
      · exact absurd c_23 (by omega)
      · refine n_const (k := 2) hx hb d_M_type_26 (by decide) ?_
        refine lv_goto (tgt := 31) hx hb d_M_type_27 (by decide) ?_
        refine c_V (own := R_M) (index := 57) (As := [.int (nI (2))]) (rest := []) hx hb hml hown hg hK (fun _ _ _ h => h) (fun _ _ => trivial) (fun _ h => h) hP hS 0 (c_M_refuses l D cI cB ad hI M (2) (by decide)) (by decide) (ci := 8) rfl rfl k_859 k_861 k_p22 k_9 k_862 1 rfl (by decide +kernel) (by decide) rfl hl.1 (Nat.le_of_ble_eq_true rfl) d_M_type_31 (fun v M_1 H locs hq hP _ _ hS => ?_)
        obtain ⟨rfl, eM_1⟩ := hq
        refine W.eq (g2 := F0 m 34 ls [.int (bI (true))]) rfl ?_
        refine z_eq (t := true) (tgt := 39) hx hb d_M_type_34 (by decide) (fun h9 => absurd h9 (by decide)) (fun _ => ?_)
        refine n_const (k := 0) hx hb d_M_type_37 (by decide) ?_
        exact r_i hx hb hr hlocks hP hS (⟨rfl, eM_1⟩) d_M_type_38
    · exact absurd c_10 (by omega)

set_option maxHeartbeats 4000000 in
set_option maxRecDepth 100000 in
theorem c_M_type (l : Launch) (D : va_G) (cI cB : ClassId) (ad : Nat → Nat) (hI : GI 13 ad) (M : PM) (tl : Nat) (tc : Nat → Nat) (hT : RT M tl tc) (c9 : Nat) (h1 : 33 ≤ c9) (h2 : c9 ≤ 126) (h3 : tl < 24) : MM l D cI cB ad y_M_type b_M_type 2 (some .int) 1 21 [.ref (ad (0)), .int (nI (c9))] M (fun v M' => v = some (.int (nI (tl + 1))) ∧ M' = pu (pu (pu M 0 0 (nI 0)) 0 2 (nI (tl + 1))) 1 tl (nI c9)) := by
  refine MC.of (by decide) (Nat.le_of_ble_eq_true rfl) ?_
  intro p e s m below meth c ls hx hb hr hml hown hg hlocks hK hN hP hS hl
  have hown : s.vm.findClass R_M = some m.cls := hown
  have hl : lv_has ls 2 [(0, .ref (ad (0))), (1, .int (nI (c9)))] := hl
  refine lv_aload_n hx hb d_M_type_0 rfl (lv_at hl 0 rfl) ?_
  refine lv_iload_n hx hb d_M_type_1 rfl (lv_at hl 1 rfl) ?_
  refine n_bipush (k := 33) hx hb d_M_type_2 (by decide) ?_
  refine n_lt (a := c9) (b := 33) (tgt := 13) hx hb d_M_type_4 (by decide) (by omega) (by omega) (fun c_4 => ?_) (fun c_4 => ?_)
  · exact absurd c_4 (by omega)
  · refine lv_iload_n hx hb d_M_type_7 rfl (lv_at hl 1 rfl) ?_
    refine n_bipush (k := 126) hx hb d_M_type_8 (by decide) ?_
    refine n_le (a := c9) (b := 126) (tgt := 17) hx hb d_M_type_10 (by decide) (by omega) (by omega) (fun c_10 => ?_) (fun c_10 => ?_)
    · refine lv_aload_n hx hb d_M_type_17 rfl (lv_at hl 0 rfl) ?_
      refine g_get (C := R_M) (T := T_M) (N := 19) (ci := 8) (v := .int (M 0 2)) hx hb hg i_M hown hK hP 0 (by decide) rfl rfl 2 (by decide) (hg _ k_795) rfl d_M_type_18 ?_
      refine n_top (y := (nI (tl))) (hT.2.1) ?_
      refine n_bipush (k := 24) hx hb d_M_type_21 (by decide) ?_
      refine n_ne (a := tl) (b := 24) (tgt := 30) hx hb d_M_type_23 (by decide) (by omega) (by omega) (fun c_23 => ?_) (fun c_23 => ?_)
      · refine n_const (k := 0) hx hb d_M_type_30 (by decide) ?_
        refine c_V (own := R_M) (index := 57) (As := [.int (nI (0))]) (rest := []) hx hb hml hown hg hK (fun _ _ _ h => h) (fun _ _ => trivial) (fun _ h => h) hP hS 0 (c_M_refuses l D cI cB ad hI M (0) (by decide)) (by decide) (ci := 8) rfl rfl k_859 k_861 k_p22 k_9 k_862 1 rfl (by decide +kernel) (by decide) rfl hl.1 (Nat.le_of_ble_eq_true rfl) d_M_type_31 (fun v M_1 H locs hq hP _ _ hS => ?_)
        obtain ⟨rfl, eM_1⟩ := hq
        refine W.eq (g2 := F0 m 34 ls [.int (bI (false))]) rfl ?_
        refine z_eq (t := false) (tgt := 39) hx hb d_M_type_34 (by decide) (fun _ => ?_) (fun h9 => absurd h9 (by decide))
        refine lv_aload_n hx hb d_M_type_39 rfl (lv_at hl 0 rfl) ?_
        refine g_get (C := R_M) (T := T_M) (N := 19) (ci := 8) (v := .ref (ad (1))) hx hb hg i_M hown hK hP 0 (by decide) rfl rfl 1 (by decide) (hg _ k_794) rfl d_M_type_40 ?_
        refine lv_aload_n hx hb d_M_type_43 rfl (lv_at hl 0 rfl) ?_
        refine lv_dup hx hb d_M_type_44 rfl ?_
        refine g_get (C := R_M) (T := T_M) (N := 19) (ci := 8) (v := .int (M_1 0 2)) hx hb hg i_M hown hK hP 0 (by decide) rfl rfl 2 (by decide) (hg _ k_795) rfl d_M_type_45 ?_
        refine n_top (y := (nI (tl))) (by rw [eM_1, pu_j _ _ _ _ _ (by first | decide | omega)]; exact hT.2.1) ?_
        refine lv_dup_x1 hx hb d_M_type_48 rfl rfl ?_
        refine n_const (k := 1) hx hb d_M_type_49 (by decide) ?_
        refine n_iadd (a := tl) (b := 1) hx hb d_M_type_50 ?_
        refine g_put (C := R_M) (T := T_M) (N := 19) (ci := 8) (v := (nI ((tl) + (1)))) hx hb hg i_M ty_M t_M_ok n_M hown hK hI (fun _ h => h) hP hS 0 (by decide) rfl rfl 2 (by decide) (hg _ k_795) rfl (by decide +kernel) (Nat.le_of_ble_eq_true rfl) rfl d_M_type_51 (fun H locs hP hS => ?_)
        obtain ⟨M_2, eM_2⟩ : ∃ z : PM, z = (pu M_1 0 2 ((nI ((tl) + (1))))) := ⟨_, rfl⟩
        rw [← eM_2] at hP
        refine lv_iload_n hx hb d_M_type_54 rfl (lv_at hl 1 rfl) ?_
        refine lv_i2b (v := nI (c9)) hx hb d_M_type_55 (nb8 c9 (by omega)) ?_
        refine g_bast hx hb hK hI (fun _ h => h) hP hS 1 1 (by decide) (fun _ => rfl) rfl (by decide) (j := tl) (by omega) (v := (nI (c9))) d_M_type_56 (fun H locs hP hS => ?_)
        obtain ⟨M_3, eM_3⟩ : ∃ z : PM, z = (pu M_2 1 (tl) (vp_nar .byte (nI (c9)))) := ⟨_, rfl⟩
        rw [← eM_3] at hP
        refine lv_aload_n hx hb d_M_type_57 rfl (lv_at hl 0 rfl) ?_
        refine g_get (C := R_M) (T := T_M) (N := 19) (ci := 8) (v := .int (M_3 0 2)) hx hb hg i_M hown hK hP 0 (by decide) rfl rfl 2 (by decide) (hg _ k_795) rfl d_M_type_58 ?_
        refine n_top (y := (nI ((tl) + (1)))) (by rw [eM_3, pu_k _ _ _ _ _ (by first | decide | omega), eM_2, pu_s]) ?_
        exact r_i hx hb hr hlocks hP hS (⟨rfl, by rw [eM_3, eM_2, eM_1, nbb c9 (by omega)]⟩) d_M_type_61
      · exact absurd c_23 (by omega)
    · exact absurd c_10 (by omega)

set_option maxHeartbeats 4000000 in
set_option maxRecDepth 100000 in
theorem c_M_clear (l : Launch) (D : va_G) (cI cB : ClassId) (ad : Nat → Nat) (hI : GI 13 ad) (M : PM) (tl : Nat) (tc : Nat → Nat) (hT : RT M tl tc) : MM l D cI cB ad y_M_clear b_M_clear 2 (some .int) 0 0 [.ref (ad (0))] M (fun v M' => v = some (.int (nI tl)) ∧ M' = pu (pu M 0 0 (nI 0)) 0 2 (nI 0)) := by
  refine MC.of (by decide) (Nat.le_of_ble_eq_true rfl) ?_
  intro p e s m below meth c ls hx hb hr hml hown hg hlocks hK hN hP hS hl
  have hown : s.vm.findClass R_M = some m.cls := hown
  have hl : lv_has ls 2 [(0, .ref (ad (0)))] := hl
  refine lv_aload_n hx hb d_M_clear_0 rfl (lv_at hl 0 rfl) ?_
  refine n_const (k := 0) hx hb d_M_clear_1 (by decide) ?_
  refine g_put (C := R_M) (T := T_M) (N := 19) (ci := 8) (v := (nI (0))) hx hb hg i_M ty_M t_M_ok n_M hown hK hI (fun _ h => h) hP hS 0 (by decide) rfl rfl 0 (by decide) (hg _ k_793) rfl (by decide +kernel) (Nat.le_of_ble_eq_true rfl) rfl d_M_clear_2 (fun H locs hP hS => ?_)
  obtain ⟨M_1, eM_1⟩ : ∃ z : PM, z = (pu M 0 0 ((nI (0)))) := ⟨_, rfl⟩
  rw [← eM_1] at hP
  refine lv_aload_n hx hb d_M_clear_5 rfl (lv_at hl 0 rfl) ?_
  refine g_get (C := R_M) (T := T_M) (N := 19) (ci := 8) (v := .int (M_1 0 2)) hx hb hg i_M hown hK hP 0 (by decide) rfl rfl 2 (by decide) (hg _ k_795) rfl d_M_clear_6 ?_
  refine n_top (y := (nI (tl))) (by rw [eM_1, pu_j _ _ _ _ _ (by first | decide | omega)]; exact hT.2.1) ?_
  refine lv_istore_n (lv' := [(1, .int (nI (tl))), (0, .ref (ad (0)))]) hx hb d_M_clear_9 rfl hl (by decide) rfl (fun ls hl => ?_)
  refine lv_aload_n hx hb d_M_clear_10 rfl (lv_at hl 1 rfl) ?_
  refine n_const (k := 0) hx hb d_M_clear_11 (by decide) ?_
  refine g_put (C := R_M) (T := T_M) (N := 19) (ci := 8) (v := (nI (0))) hx hb hg i_M ty_M t_M_ok n_M hown hK hI (fun _ h => h) hP hS 0 (by decide) rfl rfl 2 (by decide) (hg _ k_795) rfl (by decide +kernel) (Nat.le_of_ble_eq_true rfl) rfl d_M_clear_12 (fun H locs hP hS => ?_)
  obtain ⟨M_2, eM_2⟩ : ∃ z : PM, z = (pu M_1 0 2 ((nI (0)))) := ⟨_, rfl⟩
  rw [← eM_2] at hP
  refine lv_iload_n hx hb d_M_clear_15 rfl (lv_at hl 0 rfl) ?_
  exact r_i hx hb hr hlocks hP hS (⟨rfl, by rw [eM_2, eM_1]⟩) d_M_clear_16
end
