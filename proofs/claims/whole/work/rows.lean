section
-- ===== PART A: goes FIRST, ahead of the names: the tables' words, and 'selects' of the private methods out of them =====
/-- a private method of a class that the tables say can be made, by its rows of tables_1 -/
def lw_okq (q : MethodName × Nat) : Prop := (q.1.cls ≠ "java/lang/invoke/MethodHandle" ∧ q.1.cls ≠ "java/lang/invoke/VarHandle") ∧ Cond.instantiable q.1.cls q.2 ∈ tables_1 ∧ Cond.privateMethod q.1 ∈ tables_1 ∧ Cond.instanceMethod q.1 ∈ tables_1
theorem lw_p0 : lw_okq (⟨"TriggerMatches", "refuse", "(I)I"⟩, 11) := ⟨⟨by decide +kernel, by decide +kernel⟩, List.mem_of_getElem? (i := 23) (by decide +kernel), List.mem_of_getElem? (i := 396) (by decide +kernel), List.mem_of_getElem? (i := 397) (by decide +kernel)⟩
theorem lw_p1 : lw_okq (⟨"TriggerMatches", "settleAll", "()V"⟩, 11) := ⟨⟨by decide +kernel, by decide +kernel⟩, List.mem_of_getElem? (i := 23) (by decide +kernel), List.mem_of_getElem? (i := 438) (by decide +kernel), List.mem_of_getElem? (i := 439) (by decide +kernel)⟩
theorem lw_p2 : lw_okq (⟨"TriggerMatches$Standing", "sweep", "(LTriggerMatches$Terms;)Z"⟩, 8) := ⟨⟨by decide +kernel, by decide +kernel⟩, List.mem_of_getElem? (i := 168) (by decide +kernel), List.mem_of_getElem? (i := 446) (by decide +kernel), List.mem_of_getElem? (i := 447) (by decide +kernel)⟩
theorem lw_p3 : lw_okq (⟨"TriggerMatches$Standing", "emptyPlaces", "()V"⟩, 8) := ⟨⟨by decide +kernel, by decide +kernel⟩, List.mem_of_getElem? (i := 168) (by decide +kernel), List.mem_of_getElem? (i := 450) (by decide +kernel), List.mem_of_getElem? (i := 451) (by decide +kernel)⟩
theorem lw_p4 : lw_okq (⟨"TriggerMatches$Standing", "tellPlace", "(II)V"⟩, 8) := ⟨⟨by decide +kernel, by decide +kernel⟩, List.mem_of_getElem? (i := 168) (by decide +kernel), List.mem_of_getElem? (i := 462) (by decide +kernel), List.mem_of_getElem? (i := 463) (by decide +kernel)⟩
theorem lw_p5 : lw_okq (⟨"TriggerMatches$Standing", "fewestOf", "(I)I"⟩, 8) := ⟨⟨by decide +kernel, by decide +kernel⟩, List.mem_of_getElem? (i := 168) (by decide +kernel), List.mem_of_getElem? (i := 524) (by decide +kernel), List.mem_of_getElem? (i := 525) (by decide +kernel)⟩
theorem lw_p6 : lw_okq (⟨"TriggerMatches$Search", "markGenerations", "()V"⟩, 7) := ⟨⟨by decide +kernel, by decide +kernel⟩, List.mem_of_getElem? (i := 221) (by decide +kernel), List.mem_of_getElem? (i := 563) (by decide +kernel), List.mem_of_getElem? (i := 564) (by decide +kernel)⟩
theorem lw_p7 : lw_okq (⟨"TriggerMatches$Search", "stands", "(LTriggerMatches$Pattern;I)Z"⟩, 7) := ⟨⟨by decide +kernel, by decide +kernel⟩, List.mem_of_getElem? (i := 221) (by decide +kernel), List.mem_of_getElem? (i := 577) (by decide +kernel), List.mem_of_getElem? (i := 578) (by decide +kernel)⟩
theorem lw_p8 : lw_okq (⟨"TriggerMatches$Search", "chosenFor", "(I)I"⟩, 7) := ⟨⟨by decide +kernel, by decide +kernel⟩, List.mem_of_getElem? (i := 221) (by decide +kernel), List.mem_of_getElem? (i := 581) (by decide +kernel), List.mem_of_getElem? (i := 582) (by decide +kernel)⟩
theorem lw_p9 : lw_okq (⟨"TriggerMatches$Search", "valueOf", "(I)I"⟩, 7) := ⟨⟨by decide +kernel, by decide +kernel⟩, List.mem_of_getElem? (i := 221) (by decide +kernel), List.mem_of_getElem? (i := 585) (by decide +kernel), List.mem_of_getElem? (i := 586) (by decide +kernel)⟩
theorem lw_p10 : lw_okq (⟨"TriggerMatches$Search", "choose", "(LTriggerMatches$Pattern;II)V"⟩, 7) := ⟨⟨by decide +kernel, by decide +kernel⟩, List.mem_of_getElem? (i := 221) (by decide +kernel), List.mem_of_getElem? (i := 591) (by decide +kernel), List.mem_of_getElem? (i := 592) (by decide +kernel)⟩
theorem lw_p11 : lw_okq (⟨"TriggerMatches$Search", "note", "(LTriggerMatches$Pattern;)V"⟩, 7) := ⟨⟨by decide +kernel, by decide +kernel⟩, List.mem_of_getElem? (i := 221) (by decide +kernel), List.mem_of_getElem? (i := 595) (by decide +kernel), List.mem_of_getElem? (i := 596) (by decide +kernel)⟩
theorem lw_p12 : lw_okq (⟨"TriggerMatches$Search", "leastOf", "(I)I"⟩, 7) := ⟨⟨by decide +kernel, by decide +kernel⟩, List.mem_of_getElem? (i := 221) (by decide +kernel), List.mem_of_getElem? (i := 599) (by decide +kernel), List.mem_of_getElem? (i := 600) (by decide +kernel)⟩
theorem lw_p13 : lw_okq (⟨"TriggerMatches$Search", "fitting", "(LTriggerMatches$Pattern;I)J"⟩, 7) := ⟨⟨by decide +kernel, by decide +kernel⟩, List.mem_of_getElem? (i := 221) (by decide +kernel), List.mem_of_getElem? (i := 612) (by decide +kernel), List.mem_of_getElem? (i := 613) (by decide +kernel)⟩
theorem lw_p14 : lw_okq (⟨"TriggerMatches$Search", "knownValue", "(LTriggerMatches$Pattern;II)I"⟩, 7) := ⟨⟨by decide +kernel, by decide +kernel⟩, List.mem_of_getElem? (i := 221) (by decide +kernel), List.mem_of_getElem? (i := 621) (by decide +kernel), List.mem_of_getElem? (i := 622) (by decide +kernel)⟩
theorem lw_p15 : lw_okq (⟨"TriggerMatches$Round", "collect", "(I)V"⟩, 8) := ⟨⟨by decide +kernel, by decide +kernel⟩, List.mem_of_getElem? (i := 266) (by decide +kernel), List.mem_of_getElem? (i := 677) (by decide +kernel), List.mem_of_getElem? (i := 678) (by decide +kernel)⟩
def lw_privs_1 : List (MethodName × Nat) := [(⟨"TriggerMatches", "refuse", "(I)I"⟩, 11), (⟨"TriggerMatches", "settleAll", "()V"⟩, 11), (⟨"TriggerMatches$Standing", "sweep", "(LTriggerMatches$Terms;)Z"⟩, 8), (⟨"TriggerMatches$Standing", "emptyPlaces", "()V"⟩, 8), (⟨"TriggerMatches$Standing", "tellPlace", "(II)V"⟩, 8), (⟨"TriggerMatches$Standing", "fewestOf", "(I)I"⟩, 8), (⟨"TriggerMatches$Search", "markGenerations", "()V"⟩, 7), (⟨"TriggerMatches$Search", "stands", "(LTriggerMatches$Pattern;I)Z"⟩, 7), (⟨"TriggerMatches$Search", "chosenFor", "(I)I"⟩, 7), (⟨"TriggerMatches$Search", "valueOf", "(I)I"⟩, 7), (⟨"TriggerMatches$Search", "choose", "(LTriggerMatches$Pattern;II)V"⟩, 7), (⟨"TriggerMatches$Search", "note", "(LTriggerMatches$Pattern;)V"⟩, 7), (⟨"TriggerMatches$Search", "leastOf", "(I)I"⟩, 7), (⟨"TriggerMatches$Search", "fitting", "(LTriggerMatches$Pattern;I)J"⟩, 7), (⟨"TriggerMatches$Search", "knownValue", "(LTriggerMatches$Pattern;II)I"⟩, 7), (⟨"TriggerMatches$Round", "collect", "(I)V"⟩, 8)]
theorem lw_r1 : ∀ q ∈ lw_privs_1, lw_okq q := List.forall_mem_cons.mpr ⟨lw_p0, List.forall_mem_cons.mpr ⟨lw_p1, List.forall_mem_cons.mpr ⟨lw_p2, List.forall_mem_cons.mpr ⟨lw_p3, List.forall_mem_cons.mpr ⟨lw_p4, List.forall_mem_cons.mpr ⟨lw_p5, List.forall_mem_cons.mpr ⟨lw_p6, List.forall_mem_cons.mpr ⟨lw_p7, List.forall_mem_cons.mpr ⟨lw_p8, List.forall_mem_cons.mpr ⟨lw_p9, List.forall_mem_cons.mpr ⟨lw_p10, List.forall_mem_cons.mpr ⟨lw_p11, List.forall_mem_cons.mpr ⟨lw_p12, List.forall_mem_cons.mpr ⟨lw_p13, List.forall_mem_cons.mpr ⟨lw_p14, List.forall_mem_cons.mpr ⟨lw_p15, fun _ h => absurd h List.not_mem_nil⟩⟩⟩⟩⟩⟩⟩⟩⟩⟩⟩⟩⟩⟩⟩⟩
theorem lw_p16 : lw_okq (⟨"TriggerMatches$Round", "arrange", "(I)V"⟩, 8) := ⟨⟨by decide +kernel, by decide +kernel⟩, List.mem_of_getElem? (i := 266) (by decide +kernel), List.mem_of_getElem? (i := 687) (by decide +kernel), List.mem_of_getElem? (i := 688) (by decide +kernel)⟩
theorem lw_p17 : lw_okq (⟨"TriggerMatches$Round", "keyOf", "(II)I"⟩, 8) := ⟨⟨by decide +kernel, by decide +kernel⟩, List.mem_of_getElem? (i := 266) (by decide +kernel), List.mem_of_getElem? (i := 691) (by decide +kernel), List.mem_of_getElem? (i := 692) (by decide +kernel)⟩
theorem lw_p18 : lw_okq (⟨"TriggerMatches$Round", "doOne", "(I)Z"⟩, 8) := ⟨⟨by decide +kernel, by decide +kernel⟩, List.mem_of_getElem? (i := 266) (by decide +kernel), List.mem_of_getElem? (i := 698) (by decide +kernel), List.mem_of_getElem? (i := 699) (by decide +kernel)⟩
theorem lw_p19 : lw_okq (⟨"TriggerMatches$Round", "buildRight", "(LTriggerMatches$Findings;I)I"⟩, 8) := ⟨⟨by decide +kernel, by decide +kernel⟩, List.mem_of_getElem? (i := 266) (by decide +kernel), List.mem_of_getElem? (i := 703) (by decide +kernel), List.mem_of_getElem? (i := 704) (by decide +kernel)⟩
theorem lw_p20 : lw_okq (⟨"TriggerMatches$Builder", "termOf", "(LTriggerMatches$Pattern;II)I"⟩, 3) := ⟨⟨by decide +kernel, by decide +kernel⟩, List.mem_of_getElem? (i := 204) (by decide +kernel), List.mem_of_getElem? (i := 713) (by decide +kernel), List.mem_of_getElem? (i := 714) (by decide +kernel)⟩
theorem lw_p21 : lw_okq (⟨"TriggerMatches$Round", "wouldChangeBy", "(LTriggerMatches$Findings;I)Z"⟩, 8) := ⟨⟨by decide +kernel, by decide +kernel⟩, List.mem_of_getElem? (i := 266) (by decide +kernel), List.mem_of_getElem? (i := 742) (by decide +kernel), List.mem_of_getElem? (i := 743) (by decide +kernel)⟩
theorem lw_p22 : lw_okq (⟨"TriggerMatches$Text", "peek", "()I"⟩, 9) := ⟨⟨by decide +kernel, by decide +kernel⟩, List.mem_of_getElem? (i := 300) (by decide +kernel), List.mem_of_getElem? (i := 763) (by decide +kernel), List.mem_of_getElem? (i := 764) (by decide +kernel)⟩
theorem lw_p23 : lw_okq (⟨"TriggerMatches$Text", "sentence", "()Z"⟩, 9) := ⟨⟨by decide +kernel, by decide +kernel⟩, List.mem_of_getElem? (i := 300) (by decide +kernel), List.mem_of_getElem? (i := 767) (by decide +kernel), List.mem_of_getElem? (i := 768) (by decide +kernel)⟩
theorem lw_p24 : lw_okq (⟨"TriggerMatches$Text", "readSide", "(I)Z"⟩, 9) := ⟨⟨by decide +kernel, by decide +kernel⟩, List.mem_of_getElem? (i := 300) (by decide +kernel), List.mem_of_getElem? (i := 775) (by decide +kernel), List.mem_of_getElem? (i := 776) (by decide +kernel)⟩
theorem lw_p25 : lw_okq (⟨"TriggerMatches$Text", "take", "(I)Z"⟩, 9) := ⟨⟨by decide +kernel, by decide +kernel⟩, List.mem_of_getElem? (i := 300) (by decide +kernel), List.mem_of_getElem? (i := 823) (by decide +kernel), List.mem_of_getElem? (i := 824) (by decide +kernel)⟩
theorem lw_p26 : lw_okq (⟨"TriggerMatches$Text", "open", "(I)Z"⟩, 9) := ⟨⟨by decide +kernel, by decide +kernel⟩, List.mem_of_getElem? (i := 300) (by decide +kernel), List.mem_of_getElem? (i := 827) (by decide +kernel), List.mem_of_getElem? (i := 828) (by decide +kernel)⟩
theorem lw_p27 : lw_okq (⟨"TriggerMatches$Text", "closeBehind", "(I)Z"⟩, 9) := ⟨⟨by decide +kernel, by decide +kernel⟩, List.mem_of_getElem? (i := 300) (by decide +kernel), List.mem_of_getElem? (i := 836) (by decide +kernel), List.mem_of_getElem? (i := 837) (by decide +kernel)⟩
theorem lw_p28 : lw_okq (⟨"TriggerMatches$Text", "ruleSentence", "(I)Z"⟩, 9) := ⟨⟨by decide +kernel, by decide +kernel⟩, List.mem_of_getElem? (i := 300) (by decide +kernel), List.mem_of_getElem? (i := 841) (by decide +kernel), List.mem_of_getElem? (i := 842) (by decide +kernel)⟩
theorem lw_p29 : lw_okq (⟨"TriggerMatches$Text", "termSentence", "()Z"⟩, 9) := ⟨⟨by decide +kernel, by decide +kernel⟩, List.mem_of_getElem? (i := 300) (by decide +kernel), List.mem_of_getElem? (i := 856) (by decide +kernel), List.mem_of_getElem? (i := 857) (by decide +kernel)⟩
theorem lw_p30 : lw_okq (⟨"TriggerMatches$Writer", "push", "(I)V"⟩, 4) := ⟨⟨by decide +kernel, by decide +kernel⟩, List.mem_of_getElem? (i := 338) (by decide +kernel), List.mem_of_getElem? (i := 878) (by decide +kernel), List.mem_of_getElem? (i := 879) (by decide +kernel)⟩
theorem lw_p31 : lw_okq (⟨"TriggerMatches$Writer", "writeTerm", "(LTriggerMatches$Terms;I)V"⟩, 4) := ⟨⟨by decide +kernel, by decide +kernel⟩, List.mem_of_getElem? (i := 338) (by decide +kernel), List.mem_of_getElem? (i := 883) (by decide +kernel), List.mem_of_getElem? (i := 884) (by decide +kernel)⟩
def lw_privs_2 : List (MethodName × Nat) := [(⟨"TriggerMatches$Round", "arrange", "(I)V"⟩, 8), (⟨"TriggerMatches$Round", "keyOf", "(II)I"⟩, 8), (⟨"TriggerMatches$Round", "doOne", "(I)Z"⟩, 8), (⟨"TriggerMatches$Round", "buildRight", "(LTriggerMatches$Findings;I)I"⟩, 8), (⟨"TriggerMatches$Builder", "termOf", "(LTriggerMatches$Pattern;II)I"⟩, 3), (⟨"TriggerMatches$Round", "wouldChangeBy", "(LTriggerMatches$Findings;I)Z"⟩, 8), (⟨"TriggerMatches$Text", "peek", "()I"⟩, 9), (⟨"TriggerMatches$Text", "sentence", "()Z"⟩, 9), (⟨"TriggerMatches$Text", "readSide", "(I)Z"⟩, 9), (⟨"TriggerMatches$Text", "take", "(I)Z"⟩, 9), (⟨"TriggerMatches$Text", "open", "(I)Z"⟩, 9), (⟨"TriggerMatches$Text", "closeBehind", "(I)Z"⟩, 9), (⟨"TriggerMatches$Text", "ruleSentence", "(I)Z"⟩, 9), (⟨"TriggerMatches$Text", "termSentence", "()Z"⟩, 9), (⟨"TriggerMatches$Writer", "push", "(I)V"⟩, 4), (⟨"TriggerMatches$Writer", "writeTerm", "(LTriggerMatches$Terms;I)V"⟩, 4)]
theorem lw_r2 : ∀ q ∈ lw_privs_2, lw_okq q := List.forall_mem_cons.mpr ⟨lw_p16, List.forall_mem_cons.mpr ⟨lw_p17, List.forall_mem_cons.mpr ⟨lw_p18, List.forall_mem_cons.mpr ⟨lw_p19, List.forall_mem_cons.mpr ⟨lw_p20, List.forall_mem_cons.mpr ⟨lw_p21, List.forall_mem_cons.mpr ⟨lw_p22, List.forall_mem_cons.mpr ⟨lw_p23, List.forall_mem_cons.mpr ⟨lw_p24, List.forall_mem_cons.mpr ⟨lw_p25, List.forall_mem_cons.mpr ⟨lw_p26, List.forall_mem_cons.mpr ⟨lw_p27, List.forall_mem_cons.mpr ⟨lw_p28, List.forall_mem_cons.mpr ⟨lw_p29, List.forall_mem_cons.mpr ⟨lw_p30, List.forall_mem_cons.mpr ⟨lw_p31, fun _ h => absurd h List.not_mem_nil⟩⟩⟩⟩⟩⟩⟩⟩⟩⟩⟩⟩⟩⟩⟩⟩
theorem lw_p32 : lw_okq (⟨"TriggerMatchesModel", "isTerm", "(I)Z"⟩, 33) := ⟨⟨by decide +kernel, by decide +kernel⟩, List.mem_of_getElem? (i := 910) (by decide +kernel), List.mem_of_getElem? (i := 1026) (by decide +kernel), List.mem_of_getElem? (i := 1027) (by decide +kernel)⟩
theorem lw_p33 : lw_okq (⟨"TriggerMatchesModel", "refuses", "(I)I"⟩, 33) := ⟨⟨by decide +kernel, by decide +kernel⟩, List.mem_of_getElem? (i := 910) (by decide +kernel), List.mem_of_getElem? (i := 1030) (by decide +kernel), List.mem_of_getElem? (i := 1031) (by decide +kernel)⟩
theorem lw_p34 : lw_okq (⟨"TriggerMatchesModel", "termOf", "(III)I"⟩, 33) := ⟨⟨by decide +kernel, by decide +kernel⟩, List.mem_of_getElem? (i := 910) (by decide +kernel), List.mem_of_getElem? (i := 1034) (by decide +kernel), List.mem_of_getElem? (i := 1035) (by decide +kernel)⟩
theorem lw_p35 : lw_okq (⟨"TriggerMatchesModel", "keeps", "()V"⟩, 33) := ⟨⟨by decide +kernel, by decide +kernel⟩, List.mem_of_getElem? (i := 910) (by decide +kernel), List.mem_of_getElem? (i := 1038) (by decide +kernel), List.mem_of_getElem? (i := 1039) (by decide +kernel)⟩
theorem lw_p36 : lw_okq (⟨"TriggerMatchesModel", "comes", "(IIII)I"⟩, 33) := ⟨⟨by decide +kernel, by decide +kernel⟩, List.mem_of_getElem? (i := 910) (by decide +kernel), List.mem_of_getElem? (i := 1042) (by decide +kernel), List.mem_of_getElem? (i := 1043) (by decide +kernel)⟩
theorem lw_p37 : lw_okq (⟨"TriggerMatchesModel", "closes", "()V"⟩, 33) := ⟨⟨by decide +kernel, by decide +kernel⟩, List.mem_of_getElem? (i := 910) (by decide +kernel), List.mem_of_getElem? (i := 1046) (by decide +kernel), List.mem_of_getElem? (i := 1047) (by decide +kernel)⟩
theorem lw_p38 : lw_okq (⟨"TriggerMatchesModel", "classOf", "(I)I"⟩, 33) := ⟨⟨by decide +kernel, by decide +kernel⟩, List.mem_of_getElem? (i := 910) (by decide +kernel), List.mem_of_getElem? (i := 1050) (by decide +kernel), List.mem_of_getElem? (i := 1051) (by decide +kernel)⟩
theorem lw_p39 : lw_okq (⟨"TriggerMatchesModel", "isPart", "(II)Z"⟩, 33) := ⟨⟨by decide +kernel, by decide +kernel⟩, List.mem_of_getElem? (i := 910) (by decide +kernel), List.mem_of_getElem? (i := 1054) (by decide +kernel), List.mem_of_getElem? (i := 1055) (by decide +kernel)⟩
theorem lw_p40 : lw_okq (⟨"TriggerMatchesModel", "joins", "(II)Z"⟩, 33) := ⟨⟨by decide +kernel, by decide +kernel⟩, List.mem_of_getElem? (i := 910) (by decide +kernel), List.mem_of_getElem? (i := 1058) (by decide +kernel), List.mem_of_getElem? (i := 1059) (by decide +kernel)⟩
theorem lw_p41 : lw_okq (⟨"TriggerMatchesModel", "classesOf", "(I)I"⟩, 33) := ⟨⟨by decide +kernel, by decide +kernel⟩, List.mem_of_getElem? (i := 910) (by decide +kernel), List.mem_of_getElem? (i := 1066) (by decide +kernel), List.mem_of_getElem? (i := 1067) (by decide +kernel)⟩
theorem lw_p42 : lw_okq (⟨"TriggerMatchesModel", "costOf", "(I)I"⟩, 33) := ⟨⟨by decide +kernel, by decide +kernel⟩, List.mem_of_getElem? (i := 910) (by decide +kernel), List.mem_of_getElem? (i := 1090) (by decide +kernel), List.mem_of_getElem? (i := 1091) (by decide +kernel)⟩
theorem lw_p43 : lw_okq (⟨"TriggerMatchesModel", "isRule", "(I)Z"⟩, 33) := ⟨⟨by decide +kernel, by decide +kernel⟩, List.mem_of_getElem? (i := 910) (by decide +kernel), List.mem_of_getElem? (i := 1099) (by decide +kernel), List.mem_of_getElem? (i := 1100) (by decide +kernel)⟩
theorem lw_p44 : lw_okq (⟨"TriggerMatchesModel", "lettersOf", "(I)I"⟩, 33) := ⟨⟨by decide +kernel, by decide +kernel⟩, List.mem_of_getElem? (i := 910) (by decide +kernel), List.mem_of_getElem? (i := 1103) (by decide +kernel), List.mem_of_getElem? (i := 1104) (by decide +kernel)⟩
theorem lw_p45 : lw_okq (⟨"TriggerMatchesModel", "sizeOf", "(IZ)I"⟩, 33) := ⟨⟨by decide +kernel, by decide +kernel⟩, List.mem_of_getElem? (i := 910) (by decide +kernel), List.mem_of_getElem? (i := 1107) (by decide +kernel), List.mem_of_getElem? (i := 1108) (by decide +kernel)⟩
theorem lw_p46 : lw_okq (⟨"TriggerMatchesModel", "signAt", "(IZI)I"⟩, 33) := ⟨⟨by decide +kernel, by decide +kernel⟩, List.mem_of_getElem? (i := 910) (by decide +kernel), List.mem_of_getElem? (i := 1111) (by decide +kernel), List.mem_of_getElem? (i := 1112) (by decide +kernel)⟩
theorem lw_p47 : lw_okq (⟨"TriggerMatchesModel", "signsOf", "(IZ)I"⟩, 33) := ⟨⟨by decide +kernel, by decide +kernel⟩, List.mem_of_getElem? (i := 910) (by decide +kernel), List.mem_of_getElem? (i := 1115) (by decide +kernel), List.mem_of_getElem? (i := 1116) (by decide +kernel)⟩
def lw_privs_3 : List (MethodName × Nat) := [(⟨"TriggerMatchesModel", "isTerm", "(I)Z"⟩, 33), (⟨"TriggerMatchesModel", "refuses", "(I)I"⟩, 33), (⟨"TriggerMatchesModel", "termOf", "(III)I"⟩, 33), (⟨"TriggerMatchesModel", "keeps", "()V"⟩, 33), (⟨"TriggerMatchesModel", "comes", "(IIII)I"⟩, 33), (⟨"TriggerMatchesModel", "closes", "()V"⟩, 33), (⟨"TriggerMatchesModel", "classOf", "(I)I"⟩, 33), (⟨"TriggerMatchesModel", "isPart", "(II)Z"⟩, 33), (⟨"TriggerMatchesModel", "joins", "(II)Z"⟩, 33), (⟨"TriggerMatchesModel", "classesOf", "(I)I"⟩, 33), (⟨"TriggerMatchesModel", "costOf", "(I)I"⟩, 33), (⟨"TriggerMatchesModel", "isRule", "(I)Z"⟩, 33), (⟨"TriggerMatchesModel", "lettersOf", "(I)I"⟩, 33), (⟨"TriggerMatchesModel", "sizeOf", "(IZ)I"⟩, 33), (⟨"TriggerMatchesModel", "signAt", "(IZI)I"⟩, 33), (⟨"TriggerMatchesModel", "signsOf", "(IZ)I"⟩, 33)]
theorem lw_r3 : ∀ q ∈ lw_privs_3, lw_okq q := List.forall_mem_cons.mpr ⟨lw_p32, List.forall_mem_cons.mpr ⟨lw_p33, List.forall_mem_cons.mpr ⟨lw_p34, List.forall_mem_cons.mpr ⟨lw_p35, List.forall_mem_cons.mpr ⟨lw_p36, List.forall_mem_cons.mpr ⟨lw_p37, List.forall_mem_cons.mpr ⟨lw_p38, List.forall_mem_cons.mpr ⟨lw_p39, List.forall_mem_cons.mpr ⟨lw_p40, List.forall_mem_cons.mpr ⟨lw_p41, List.forall_mem_cons.mpr ⟨lw_p42, List.forall_mem_cons.mpr ⟨lw_p43, List.forall_mem_cons.mpr ⟨lw_p44, List.forall_mem_cons.mpr ⟨lw_p45, List.forall_mem_cons.mpr ⟨lw_p46, List.forall_mem_cons.mpr ⟨lw_p47, fun _ h => absurd h List.not_mem_nil⟩⟩⟩⟩⟩⟩⟩⟩⟩⟩⟩⟩⟩⟩⟩⟩
theorem lw_p48 : lw_okq (⟨"TriggerMatchesModel", "table", "()V"⟩, 33) := ⟨⟨by decide +kernel, by decide +kernel⟩, List.mem_of_getElem? (i := 910) (by decide +kernel), List.mem_of_getElem? (i := 1119) (by decide +kernel), List.mem_of_getElem? (i := 1120) (by decide +kernel)⟩
theorem lw_p49 : lw_okq (⟨"TriggerMatchesModel", "finds", "(I)V"⟩, 33) := ⟨⟨by decide +kernel, by decide +kernel⟩, List.mem_of_getElem? (i := 910) (by decide +kernel), List.mem_of_getElem? (i := 1123) (by decide +kernel), List.mem_of_getElem? (i := 1124) (by decide +kernel)⟩
theorem lw_p50 : lw_okq (⟨"TriggerMatchesModel", "isStand", "(III)Z"⟩, 33) := ⟨⟨by decide +kernel, by decide +kernel⟩, List.mem_of_getElem? (i := 910) (by decide +kernel), List.mem_of_getElem? (i := 1127) (by decide +kernel), List.mem_of_getElem? (i := 1128) (by decide +kernel)⟩
theorem lw_p51 : lw_okq (⟨"TriggerMatchesModel", "meets", "(I)V"⟩, 33) := ⟨⟨by decide +kernel, by decide +kernel⟩, List.mem_of_getElem? (i := 910) (by decide +kernel), List.mem_of_getElem? (i := 1131) (by decide +kernel), List.mem_of_getElem? (i := 1132) (by decide +kernel)⟩
theorem lw_p52 : lw_okq (⟨"TriggerMatchesModel", "placeOf", "(I)I"⟩, 33) := ⟨⟨by decide +kernel, by decide +kernel⟩, List.mem_of_getElem? (i := 910) (by decide +kernel), List.mem_of_getElem? (i := 1135) (by decide +kernel), List.mem_of_getElem? (i := 1136) (by decide +kernel)⟩
theorem lw_p53 : lw_okq (⟨"TriggerMatchesModel", "goesRound", "()I"⟩, 33) := ⟨⟨by decide +kernel, by decide +kernel⟩, List.mem_of_getElem? (i := 910) (by decide +kernel), List.mem_of_getElem? (i := 1155) (by decide +kernel), List.mem_of_getElem? (i := 1156) (by decide +kernel)⟩
theorem lw_p54 : lw_okq (⟨"TriggerMatchesModel", "doesAll", "(III)I"⟩, 33) := ⟨⟨by decide +kernel, by decide +kernel⟩, List.mem_of_getElem? (i := 910) (by decide +kernel), List.mem_of_getElem? (i := 1159) (by decide +kernel), List.mem_of_getElem? (i := 1160) (by decide +kernel)⟩
theorem lw_p55 : lw_okq (⟨"TriggerMatchesModel", "does", "(II)Z"⟩, 33) := ⟨⟨by decide +kernel, by decide +kernel⟩, List.mem_of_getElem? (i := 910) (by decide +kernel), List.mem_of_getElem? (i := 1163) (by decide +kernel), List.mem_of_getElem? (i := 1164) (by decide +kernel)⟩
theorem lw_p56 : lw_okq (⟨"TriggerMatchesModel", "builds", "([IIII)I"⟩, 33) := ⟨⟨by decide +kernel, by decide +kernel⟩, List.mem_of_getElem? (i := 910) (by decide +kernel), List.mem_of_getElem? (i := 1167) (by decide +kernel), List.mem_of_getElem? (i := 1168) (by decide +kernel)⟩
theorem lw_p57 : lw_okq (⟨"TriggerMatchesModel", "made", "(I)V"⟩, 33) := ⟨⟨by decide +kernel, by decide +kernel⟩, List.mem_of_getElem? (i := 910) (by decide +kernel), List.mem_of_getElem? (i := 1171) (by decide +kernel), List.mem_of_getElem? (i := 1172) (by decide +kernel)⟩
theorem lw_p58 : lw_okq (⟨"TriggerMatchesModel", "waiting", "(III)I"⟩, 33) := ⟨⟨by decide +kernel, by decide +kernel⟩, List.mem_of_getElem? (i := 910) (by decide +kernel), List.mem_of_getElem? (i := 1175) (by decide +kernel), List.mem_of_getElem? (i := 1176) (by decide +kernel)⟩
theorem lw_p59 : lw_okq (⟨"TriggerMatchesModel", "skips", "()V"⟩, 33) := ⟨⟨by decide +kernel, by decide +kernel⟩, List.mem_of_getElem? (i := 910) (by decide +kernel), List.mem_of_getElem? (i := 1203) (by decide +kernel), List.mem_of_getElem? (i := 1204) (by decide +kernel)⟩
theorem lw_p60 : lw_okq (⟨"TriggerMatchesModel", "byteAt", "(I)I"⟩, 33) := ⟨⟨by decide +kernel, by decide +kernel⟩, List.mem_of_getElem? (i := 910) (by decide +kernel), List.mem_of_getElem? (i := 1207) (by decide +kernel), List.mem_of_getElem? (i := 1208) (by decide +kernel)⟩
theorem lw_p61 : lw_okq (⟨"TriggerMatchesModel", "sentence", "()Z"⟩, 33) := ⟨⟨by decide +kernel, by decide +kernel⟩, List.mem_of_getElem? (i := 910) (by decide +kernel), List.mem_of_getElem? (i := 1211) (by decide +kernel), List.mem_of_getElem? (i := 1212) (by decide +kernel)⟩
theorem lw_p62 : lw_okq (⟨"TriggerMatchesModel", "side", "([II)Z"⟩, 33) := ⟨⟨by decide +kernel, by decide +kernel⟩, List.mem_of_getElem? (i := 910) (by decide +kernel), List.mem_of_getElem? (i := 1215) (by decide +kernel), List.mem_of_getElem? (i := 1216) (by decide +kernel)⟩
theorem lw_p63 : lw_okq (⟨"TriggerMatchesModel", "is", "(I)Z"⟩, 33) := ⟨⟨by decide +kernel, by decide +kernel⟩, List.mem_of_getElem? (i := 910) (by decide +kernel), List.mem_of_getElem? (i := 1222) (by decide +kernel), List.mem_of_getElem? (i := 1223) (by decide +kernel)⟩
def lw_privs_4 : List (MethodName × Nat) := [(⟨"TriggerMatchesModel", "table", "()V"⟩, 33), (⟨"TriggerMatchesModel", "finds", "(I)V"⟩, 33), (⟨"TriggerMatchesModel", "isStand", "(III)Z"⟩, 33), (⟨"TriggerMatchesModel", "meets", "(I)V"⟩, 33), (⟨"TriggerMatchesModel", "placeOf", "(I)I"⟩, 33), (⟨"TriggerMatchesModel", "goesRound", "()I"⟩, 33), (⟨"TriggerMatchesModel", "doesAll", "(III)I"⟩, 33), (⟨"TriggerMatchesModel", "does", "(II)Z"⟩, 33), (⟨"TriggerMatchesModel", "builds", "([IIII)I"⟩, 33), (⟨"TriggerMatchesModel", "made", "(I)V"⟩, 33), (⟨"TriggerMatchesModel", "waiting", "(III)I"⟩, 33), (⟨"TriggerMatchesModel", "skips", "()V"⟩, 33), (⟨"TriggerMatchesModel", "byteAt", "(I)I"⟩, 33), (⟨"TriggerMatchesModel", "sentence", "()Z"⟩, 33), (⟨"TriggerMatchesModel", "side", "([II)Z"⟩, 33), (⟨"TriggerMatchesModel", "is", "(I)Z"⟩, 33)]
theorem lw_r4 : ∀ q ∈ lw_privs_4, lw_okq q := List.forall_mem_cons.mpr ⟨lw_p48, List.forall_mem_cons.mpr ⟨lw_p49, List.forall_mem_cons.mpr ⟨lw_p50, List.forall_mem_cons.mpr ⟨lw_p51, List.forall_mem_cons.mpr ⟨lw_p52, List.forall_mem_cons.mpr ⟨lw_p53, List.forall_mem_cons.mpr ⟨lw_p54, List.forall_mem_cons.mpr ⟨lw_p55, List.forall_mem_cons.mpr ⟨lw_p56, List.forall_mem_cons.mpr ⟨lw_p57, List.forall_mem_cons.mpr ⟨lw_p58, List.forall_mem_cons.mpr ⟨lw_p59, List.forall_mem_cons.mpr ⟨lw_p60, List.forall_mem_cons.mpr ⟨lw_p61, List.forall_mem_cons.mpr ⟨lw_p62, List.forall_mem_cons.mpr ⟨lw_p63, fun _ h => absurd h List.not_mem_nil⟩⟩⟩⟩⟩⟩⟩⟩⟩⟩⟩⟩⟩⟩⟩⟩
theorem lw_p64 : lw_okq (⟨"TriggerMatchesModel", "rules", "()V"⟩, 33) := ⟨⟨by decide +kernel, by decide +kernel⟩, List.mem_of_getElem? (i := 910) (by decide +kernel), List.mem_of_getElem? (i := 1226) (by decide +kernel), List.mem_of_getElem? (i := 1227) (by decide +kernel)⟩
theorem lw_p65 : lw_okq (⟨"TriggerMatchesModel", "toldOf", "(I)I"⟩, 33) := ⟨⟨by decide +kernel, by decide +kernel⟩, List.mem_of_getElem? (i := 910) (by decide +kernel), List.mem_of_getElem? (i := 1245) (by decide +kernel), List.mem_of_getElem? (i := 1246) (by decide +kernel)⟩
def lw_privs_5 : List (MethodName × Nat) := [(⟨"TriggerMatchesModel", "rules", "()V"⟩, 33), (⟨"TriggerMatchesModel", "toldOf", "(I)I"⟩, 33)]
theorem lw_r5 : ∀ q ∈ lw_privs_5, lw_okq q := List.forall_mem_cons.mpr ⟨lw_p64, List.forall_mem_cons.mpr ⟨lw_p65, fun _ h => absurd h List.not_mem_nil⟩⟩
def lw_privs : List (MethodName × Nat) := lw_privs_1 ++ (lw_privs_2 ++ (lw_privs_3 ++ (lw_privs_4 ++ (lw_privs_5))))
def lw_tbl : List Cond := k2_sels lw_privs ++ tables_1
theorem lw_privs_ok : ∀ q ∈ lw_privs, lw_okq q := by
  show ∀ q ∈ lw_privs_1 ++ (lw_privs_2 ++ (lw_privs_3 ++ (lw_privs_4 ++ (lw_privs_5)))), lw_okq q
  exact List.forall_mem_append.mpr ⟨lw_r1, List.forall_mem_append.mpr ⟨lw_r2, List.forall_mem_append.mpr ⟨lw_r3, List.forall_mem_append.mpr ⟨lw_r4, lw_r5⟩⟩⟩⟩
-- ===== end of PART A; then your names; then what follows =====
end
section
def RX0 : String := "TriggerMatches$Builder"
def TX0 : u_T := fun k => match k with
  | 0 => ("TriggerMatches$Builder", "terms", "LTriggerMatches$Terms;", true)
  | 1 => ("TriggerMatches$Builder", "letter", "[I", true)
  | _ => ("TriggerMatches$Builder", "made", "[I", true)
def tyX0 : Nat → FieldType := fun k => match k with
  | 0 => .object "TriggerMatches$Terms"
  | 1 => .array .int
  | _ => .array .int
theorem nmX0 : ∀ a, a < 3 → ∀ b, b < 3 → a ≠ b → (TX0 a).2.1 ≠ (TX0 b).2.1 := by decide +kernel
theorem tyX0_ok : ∀ k, k < 3 → parseFieldDescriptor (TX0 k).2.2.1 = some (tyX0 k) := by decide +kernel
abbrev cX0_init : ByteArray := prog_2_method_1_code
def yX0_init : MethodName := ⟨RX0, "<init>", "(LTriggerMatches$Terms;)V"⟩
abbrev cX0_build : ByteArray := prog_2_method_2_code
def yX0_build : MethodName := ⟨RX0, "build", "(LTriggerMatches$Pattern;III)I"⟩
abbrev cX0_termOf : ByteArray := prog_2_method_3_code
def yX0_termOf : MethodName := ⟨RX0, "termOf", "(LTriggerMatches$Pattern;II)I"⟩
abbrev cX0_madeOf : ByteArray := prog_2_method_4_code
def yX0_madeOf : MethodName := ⟨RX0, "madeOf", "(I)I"⟩
def RX1 : String := "TriggerMatches$Findings"
def TX1 : u_T := fun k => match k with
  | 0 => ("TriggerMatches$Findings", "packed", "[J", true)
  | _ => ("TriggerMatches$Findings", "size", "I", false)
def tyX1 : Nat → FieldType := fun k => match k with
  | 0 => .array .long
  | _ => .int
theorem nmX1 : ∀ a, a < 2 → ∀ b, b < 2 → a ≠ b → (TX1 a).2.1 ≠ (TX1 b).2.1 := by decide +kernel
theorem tyX1_ok : ∀ k, k < 2 → parseFieldDescriptor (TX1 k).2.2.1 = some (tyX1 k) := by decide +kernel
abbrev cX1_init : ByteArray := prog_3_method_1_code
def yX1_init : MethodName := ⟨RX1, "<init>", "(I)V"⟩
abbrev cX1_isFull : ByteArray := prog_3_method_2_code
def yX1_isFull : MethodName := ⟨RX1, "isFull", "()Z"⟩
abbrev cX1_add : ByteArray := prog_3_method_3_code
def yX1_add : MethodName := ⟨RX1, "add", "(IIIIII)V"⟩
abbrev cX1_addFrom : ByteArray := prog_3_method_4_code
def yX1_addFrom : MethodName := ⟨RX1, "addFrom", "(LTriggerMatches$Findings;I)V"⟩
abbrev cX1_tell : ByteArray := prog_3_method_5_code
def yX1_tell : MethodName := ⟨RX1, "tell", "(II)I"⟩
abbrev cX1_isLate : ByteArray := prog_3_method_6_code
def yX1_isLate : MethodName := ⟨RX1, "isLate", "(II)Z"⟩
abbrev cX1_countInTime : ByteArray := prog_3_method_7_code
def yX1_countInTime : MethodName := ⟨RX1, "countInTime", "(I)I"⟩
def RX2 : String := "TriggerMatches$Pattern"
def TX2 : u_T := fun k => match k with
  | 0 => ("TriggerMatches$Pattern", "size", "I", false)
  | 1 => ("TriggerMatches$Pattern", "left", "I", false)
  | 2 => ("TriggerMatches$Pattern", "sign", "[I", true)
  | 3 => ("TriggerMatches$Pattern", "one", "[I", true)
  | 4 => ("TriggerMatches$Pattern", "other", "[I", true)
  | _ => ("TriggerMatches$Pattern", "stage", "[I", true)
def tyX2 : Nat → FieldType := fun k => match k with
  | 0 => .int
  | 1 => .int
  | 2 => .array .int
  | 3 => .array .int
  | 4 => .array .int
  | _ => .array .int
theorem nmX2 : ∀ a, a < 6 → ∀ b, b < 6 → a ≠ b → (TX2 a).2.1 ≠ (TX2 b).2.1 := by decide +kernel
theorem tyX2_ok : ∀ k, k < 6 → parseFieldDescriptor (TX2 k).2.2.1 = some (tyX2 k) := by decide +kernel
abbrev cX2_init : ByteArray := prog_4_method_1_code
def yX2_init : MethodName := ⟨RX2, "<init>", "(I)V"⟩
abbrev cX2_empty : ByteArray := prog_4_method_2_code
def yX2_empty : MethodName := ⟨RX2, "empty", "()V"⟩
abbrev cX2_add : ByteArray := prog_4_method_3_code
def yX2_add : MethodName := ⟨RX2, "add", "(III)I"⟩
abbrev cX2_stageOf : ByteArray := prog_4_method_4_code
def yX2_stageOf : MethodName := ⟨RX2, "stageOf", "(I)I"⟩
abbrev cX2_isLetter : ByteArray := prog_4_method_5_code
def yX2_isLetter : MethodName := ⟨RX2, "isLetter", "(II)Z"⟩
abbrev cX2_lettersIn : ByteArray := prog_4_method_6_code
def yX2_lettersIn : MethodName := ⟨RX2, "lettersIn", "(II)I"⟩
abbrev cX2_signsIn : ByteArray := prog_4_method_7_code
def yX2_signsIn : MethodName := ⟨RX2, "signsIn", "(II)I"⟩
abbrev cX2_copied : ByteArray := prog_4_method_8_code
def yX2_copied : MethodName := ⟨RX2, "copied", "()LTriggerMatches$Pattern;"⟩
def RX3 : String := "TriggerMatches$Round"
def TX3 : u_T := fun k => match k with
  | 0 => ("TriggerMatches$Round", "now", "LTriggerMatches$State;", true)
  | 1 => ("TriggerMatches$Round", "standing", "LTriggerMatches$Standing;", true)
  | 2 => ("TriggerMatches$Round", "search", "LTriggerMatches$Search;", true)
  | 3 => ("TriggerMatches$Round", "builder", "LTriggerMatches$Builder;", true)
  | 4 => ("TriggerMatches$Round", "todo", "LTriggerMatches$Findings;", true)
  | 5 => ("TriggerMatches$Round", "sequence", "[I", true)
  | 6 => ("TriggerMatches$Round", "starts", "[I", true)
  | _ => ("TriggerMatches$Round", "counts", "[I", true)
def tyX3 : Nat → FieldType := fun k => match k with
  | 0 => .object "TriggerMatches$State"
  | 1 => .object "TriggerMatches$Standing"
  | 2 => .object "TriggerMatches$Search"
  | 3 => .object "TriggerMatches$Builder"
  | 4 => .object "TriggerMatches$Findings"
  | 5 => .array .int
  | 6 => .array .int
  | _ => .array .int
theorem nmX3 : ∀ a, a < 8 → ∀ b, b < 8 → a ≠ b → (TX3 a).2.1 ≠ (TX3 b).2.1 := by decide +kernel
theorem tyX3_ok : ∀ k, k < 8 → parseFieldDescriptor (TX3 k).2.2.1 = some (tyX3 k) := by decide +kernel
abbrev cX3_init : ByteArray := prog_5_method_1_code
def yX3_init : MethodName := ⟨RX3, "<init>", "(LTriggerMatches$State;LTriggerMatches$Standing;LTriggerMatches$Search;LTriggerMatches$Builder;)V"⟩
abbrev cX3_run : ByteArray := prog_5_method_2_code
def yX3_run : MethodName := ⟨RX3, "run", "(II)I"⟩
abbrev cX3_collect : ByteArray := prog_5_method_3_code
def yX3_collect : MethodName := ⟨RX3, "collect", "(I)V"⟩
abbrev cX3_arrange : ByteArray := prog_5_method_4_code
def yX3_arrange : MethodName := ⟨RX3, "arrange", "(I)V"⟩
abbrev cX3_keyOf : ByteArray := prog_5_method_5_code
def yX3_keyOf : MethodName := ⟨RX3, "keyOf", "(II)I"⟩
abbrev cX3_doOne : ByteArray := prog_5_method_6_code
def yX3_doOne : MethodName := ⟨RX3, "doOne", "(I)Z"⟩
abbrev cX3_buildRight : ByteArray := prog_5_method_7_code
def yX3_buildRight : MethodName := ⟨RX3, "buildRight", "(LTriggerMatches$Findings;I)I"⟩
abbrev cX3_wouldChange : ByteArray := prog_5_method_8_code
def yX3_wouldChange : MethodName := ⟨RX3, "wouldChange", "(I)Z"⟩
abbrev cX3_wouldChangeBy : ByteArray := prog_5_method_9_code
def yX3_wouldChangeBy : MethodName := ⟨RX3, "wouldChangeBy", "(LTriggerMatches$Findings;I)Z"⟩
def RX4 : String := "TriggerMatches$Search"
def TX4 : u_T := fun k => match k with
  | 0 => ("TriggerMatches$Search", "now", "LTriggerMatches$State;", true)
  | 1 => ("TriggerMatches$Search", "standing", "LTriggerMatches$Standing;", true)
  | 2 => ("TriggerMatches$Search", "found", "LTriggerMatches$Findings;", true)
  | 3 => ("TriggerMatches$Search", "foundRule", "I", false)
  | 4 => ("TriggerMatches$Search", "least", "[I", true)
  | 5 => ("TriggerMatches$Search", "value", "[I", true)
  | _ => ("TriggerMatches$Search", "chosen", "[I", true)
def tyX4 : Nat → FieldType := fun k => match k with
  | 0 => .object "TriggerMatches$State"
  | 1 => .object "TriggerMatches$Standing"
  | 2 => .object "TriggerMatches$Findings"
  | 3 => .int
  | 4 => .array .int
  | 5 => .array .int
  | _ => .array .int
theorem nmX4 : ∀ a, a < 7 → ∀ b, b < 7 → a ≠ b → (TX4 a).2.1 ≠ (TX4 b).2.1 := by decide +kernel
theorem tyX4_ok : ∀ k, k < 7 → parseFieldDescriptor (TX4 k).2.2.1 = some (tyX4 k) := by decide +kernel
abbrev cX4_init : ByteArray := prog_6_method_1_code
def yX4_init : MethodName := ⟨RX4, "<init>", "(LTriggerMatches$State;LTriggerMatches$Standing;)V"⟩
abbrev cX4_forget : ByteArray := prog_6_method_2_code
def yX4_forget : MethodName := ⟨RX4, "forget", "()V"⟩
abbrev cX4_look : ByteArray := prog_6_method_3_code
def yX4_look : MethodName := ⟨RX4, "look", "(I)LTriggerMatches$Findings;"⟩
abbrev cX4_markGenerations : ByteArray := prog_6_method_4_code
def yX4_markGenerations : MethodName := ⟨RX4, "markGenerations", "()V"⟩
abbrev cX4_choose : ByteArray := prog_6_method_5_code
def yX4_choose : MethodName := ⟨RX4, "choose", "(LTriggerMatches$Pattern;II)V"⟩
abbrev cX4_fitting : ByteArray := prog_6_method_6_code
def yX4_fitting : MethodName := ⟨RX4, "fitting", "(LTriggerMatches$Pattern;I)J"⟩
abbrev cX4_knownValue : ByteArray := prog_6_method_7_code
def yX4_knownValue : MethodName := ⟨RX4, "knownValue", "(LTriggerMatches$Pattern;II)I"⟩
abbrev cX4_valueOf : ByteArray := prog_6_method_8_code
def yX4_valueOf : MethodName := ⟨RX4, "valueOf", "(I)I"⟩
abbrev cX4_stands : ByteArray := prog_6_method_9_code
def yX4_stands : MethodName := ⟨RX4, "stands", "(LTriggerMatches$Pattern;I)Z"⟩
abbrev cX4_chosenFor : ByteArray := prog_6_method_10_code
def yX4_chosenFor : MethodName := ⟨RX4, "chosenFor", "(I)I"⟩
abbrev cX4_note : ByteArray := prog_6_method_11_code
def yX4_note : MethodName := ⟨RX4, "note", "(LTriggerMatches$Pattern;)V"⟩
abbrev cX4_leastOf : ByteArray := prog_6_method_12_code
def yX4_leastOf : MethodName := ⟨RX4, "leastOf", "(I)I"⟩
def RX5 : String := "TriggerMatches$Standing"
def TX5 : u_T := fun k => match k with
  | 0 => ("TriggerMatches$Standing", "place", "[I", true)
  | 1 => ("TriggerMatches$Standing", "used", "[I", true)
  | 2 => ("TriggerMatches$Standing", "usedSize", "I", false)
  | 3 => ("TriggerMatches$Standing", "firsts", "[J", true)
  | 4 => ("TriggerMatches$Standing", "seconds", "J", false)
  | 5 => ("TriggerMatches$Standing", "firstsWith", "[J", true)
  | 6 => ("TriggerMatches$Standing", "secondsWith", "[J", true)
  | _ => ("TriggerMatches$Standing", "fewest", "[I", true)
def tyX5 : Nat → FieldType := fun k => match k with
  | 0 => .array .int
  | 1 => .array .int
  | 2 => .int
  | 3 => .array .long
  | 4 => .long
  | 5 => .array .long
  | 6 => .array .long
  | _ => .array .int
theorem nmX5 : ∀ a, a < 8 → ∀ b, b < 8 → a ≠ b → (TX5 a).2.1 ≠ (TX5 b).2.1 := by decide +kernel
theorem tyX5_ok : ∀ k, k < 8 → parseFieldDescriptor (TX5 k).2.2.1 = some (tyX5 k) := by decide +kernel
abbrev cX5_init : ByteArray := prog_7_method_1_code
def yX5_init : MethodName := ⟨RX5, "<init>", "()V"⟩
abbrev cX5_keyOf : ByteArray := prog_7_method_2_code
def yX5_keyOf : MethodName := ⟨RX5, "keyOf", "(III)I"⟩
abbrev cX5_settle : ByteArray := prog_7_method_3_code
def yX5_settle : MethodName := ⟨RX5, "settle", "(LTriggerMatches$Terms;)V"⟩
abbrev cX5_sweep : ByteArray := prog_7_method_4_code
def yX5_sweep : MethodName := ⟨RX5, "sweep", "(LTriggerMatches$Terms;)Z"⟩
abbrev cX5_emptyPlaces : ByteArray := prog_7_method_5_code
def yX5_emptyPlaces : MethodName := ⟨RX5, "emptyPlaces", "()V"⟩
abbrev cX5_tellPlace : ByteArray := prog_7_method_6_code
def yX5_tellPlace : MethodName := ⟨RX5, "tellPlace", "(II)V"⟩
abbrev cX5_markParts : ByteArray := prog_7_method_7_code
def yX5_markParts : MethodName := ⟨RX5, "markParts", "(LTriggerMatches$Terms;)V"⟩
abbrev cX5_firstsFor : ByteArray := prog_7_method_8_code
def yX5_firstsFor : MethodName := ⟨RX5, "firstsFor", "(II)J"⟩
abbrev cX5_secondsFor : ByteArray := prog_7_method_9_code
def yX5_secondsFor : MethodName := ⟨RX5, "secondsFor", "(I)J"⟩
abbrev cX5_fewestSigns : ByteArray := prog_7_method_10_code
def yX5_fewestSigns : MethodName := ⟨RX5, "fewestSigns", "(LTriggerMatches$Terms;I)I"⟩
abbrev cX5_fewestOf : ByteArray := prog_7_method_11_code
def yX5_fewestOf : MethodName := ⟨RX5, "fewestOf", "(I)I"⟩
def RX6 : String := "TriggerMatches$State"
def TX6 : u_T := fun k => match k with
  | 0 => ("TriggerMatches$State", "terms", "LTriggerMatches$Terms;", true)
  | 1 => ("TriggerMatches$State", "patterns", "[LTriggerMatches$Pattern;", true)
  | 2 => ("TriggerMatches$State", "rules", "I", false)
  | _ => ("TriggerMatches$State", "blank", "LTriggerMatches$Pattern;", true)
def tyX6 : Nat → FieldType := fun k => match k with
  | 0 => .object "TriggerMatches$Terms"
  | 1 => .array (.object "TriggerMatches$Pattern")
  | 2 => .int
  | _ => .object "TriggerMatches$Pattern"
theorem nmX6 : ∀ a, a < 4 → ∀ b, b < 4 → a ≠ b → (TX6 a).2.1 ≠ (TX6 b).2.1 := by decide +kernel
theorem tyX6_ok : ∀ k, k < 4 → parseFieldDescriptor (TX6 k).2.2.1 = some (tyX6 k) := by decide +kernel
abbrev cX6_init : ByteArray := prog_8_method_1_code
def yX6_init : MethodName := ⟨RX6, "<init>", "()V"⟩
abbrev cX6_copyFrom : ByteArray := prog_8_method_2_code
def yX6_copyFrom : MethodName := ⟨RX6, "copyFrom", "(LTriggerMatches$State;)V"⟩
abbrev cX6_empty : ByteArray := prog_8_method_3_code
def yX6_empty : MethodName := ⟨RX6, "empty", "()V"⟩
abbrev cX6_hasRule : ByteArray := prog_8_method_4_code
def yX6_hasRule : MethodName := ⟨RX6, "hasRule", "(I)Z"⟩
abbrev cX6_ruleAt : ByteArray := prog_8_method_5_code
def yX6_ruleAt : MethodName := ⟨RX6, "ruleAt", "(I)LTriggerMatches$Pattern;"⟩
abbrev cX6_addRule : ByteArray := prog_8_method_6_code
def yX6_addRule : MethodName := ⟨RX6, "addRule", "(LTriggerMatches$Pattern;)V"⟩
abbrev cX6_removeRule : ByteArray := prog_8_method_7_code
def yX6_removeRule : MethodName := ⟨RX6, "removeRule", "(I)V"⟩
def RX7 : String := "TriggerMatches$States"
def TX7 : u_T := fun k => match k with
  | 0 => ("TriggerMatches$States", "slots", "[LTriggerMatches$State;", true)
  | 1 => ("TriggerMatches$States", "spare", "I", false)
  | _ => ("TriggerMatches$States", "size", "I", false)
def tyX7 : Nat → FieldType := fun k => match k with
  | 0 => .array (.object "TriggerMatches$State")
  | 1 => .int
  | _ => .int
theorem nmX7 : ∀ a, a < 3 → ∀ b, b < 3 → a ≠ b → (TX7 a).2.1 ≠ (TX7 b).2.1 := by decide +kernel
theorem tyX7_ok : ∀ k, k < 3 → parseFieldDescriptor (TX7 k).2.2.1 = some (tyX7 k) := by decide +kernel
abbrev cX7_init : ByteArray := prog_9_method_1_code
def yX7_init : MethodName := ⟨RX7, "<init>", "()V"⟩
abbrev cX7_prepare : ByteArray := prog_9_method_2_code
def yX7_prepare : MethodName := ⟨RX7, "prepare", "(LTriggerMatches$State;)V"⟩
abbrev cX7_keepPrepared : ByteArray := prog_9_method_3_code
def yX7_keepPrepared : MethodName := ⟨RX7, "keepPrepared", "()V"⟩
abbrev cX7_keep : ByteArray := prog_9_method_4_code
def yX7_keep : MethodName := ⟨RX7, "keep", "(LTriggerMatches$State;)V"⟩
abbrev cX7_undo : ByteArray := prog_9_method_5_code
def yX7_undo : MethodName := ⟨RX7, "undo", "(LTriggerMatches$State;)V"⟩
abbrev cX7_goBack : ByteArray := prog_9_method_6_code
def yX7_goBack : MethodName := ⟨RX7, "goBack", "(LTriggerMatches$State;)V"⟩
def RX8 : String := "TriggerMatches$Terms"
def TX8 : u_T := fun k => match k with
  | 0 => ("TriggerMatches$Terms", "size", "I", false)
  | 1 => ("TriggerMatches$Terms", "sign", "[I", true)
  | 2 => ("TriggerMatches$Terms", "one", "[I", true)
  | 3 => ("TriggerMatches$Terms", "other", "[I", true)
  | 4 => ("TriggerMatches$Terms", "generation", "[I", true)
  | _ => ("TriggerMatches$Terms", "home", "[I", true)
def tyX8 : Nat → FieldType := fun k => match k with
  | 0 => .int
  | 1 => .array .int
  | 2 => .array .int
  | 3 => .array .int
  | 4 => .array .int
  | _ => .array .int
theorem nmX8 : ∀ a, a < 6 → ∀ b, b < 6 → a ≠ b → (TX8 a).2.1 ≠ (TX8 b).2.1 := by decide +kernel
theorem tyX8_ok : ∀ k, k < 6 → parseFieldDescriptor (TX8 k).2.2.1 = some (tyX8 k) := by decide +kernel
abbrev cX8_init : ByteArray := prog_10_method_1_code
def yX8_init : MethodName := ⟨RX8, "<init>", "()V"⟩
abbrev cX8_copyFrom : ByteArray := prog_10_method_2_code
def yX8_copyFrom : MethodName := ⟨RX8, "copyFrom", "(LTriggerMatches$Terms;)V"⟩
abbrev cX8_has : ByteArray := prog_10_method_3_code
def yX8_has : MethodName := ⟨RX8, "has", "(I)Z"⟩
abbrev cX8_homeOf : ByteArray := prog_10_method_4_code
def yX8_homeOf : MethodName := ⟨RX8, "homeOf", "(I)I"⟩
abbrev cX8_lookUp : ByteArray := prog_10_method_5_code
def yX8_lookUp : MethodName := ⟨RX8, "lookUp", "(III)I"⟩
abbrev cX8_add : ByteArray := prog_10_method_6_code
def yX8_add : MethodName := ⟨RX8, "add", "(IIII)I"⟩
abbrev cX8_unite : ByteArray := prog_10_method_7_code
def yX8_unite : MethodName := ⟨RX8, "unite", "(II)Z"⟩
abbrev cX8_countClasses : ByteArray := prog_10_method_8_code
def yX8_countClasses : MethodName := ⟨RX8, "countClasses", "(I)I"⟩
abbrev cX8_countIn : ByteArray := prog_10_method_9_code
def yX8_countIn : MethodName := ⟨RX8, "countIn", "(I)I"⟩
abbrev cX8_countUsers : ByteArray := prog_10_method_10_code
def yX8_countUsers : MethodName := ⟨RX8, "countUsers", "(I)I"⟩
abbrev cX8_leastGeneration : ByteArray := prog_10_method_11_code
def yX8_leastGeneration : MethodName := ⟨RX8, "leastGeneration", "(I)I"⟩
def RX9 : String := "TriggerMatches$Text"
def TX9 : u_T := fun k => match k with
  | 0 => ("TriggerMatches$Text", "bytes", "[I", true)
  | 1 => ("TriggerMatches$Text", "length", "I", false)
  | 2 => ("TriggerMatches$Text", "now", "LTriggerMatches$State;", true)
  | 3 => ("TriggerMatches$Text", "builder", "LTriggerMatches$Builder;", true)
  | 4 => ("TriggerMatches$Text", "pattern", "LTriggerMatches$Pattern;", true)
  | 5 => ("TriggerMatches$Text", "openSign", "[I", true)
  | 6 => ("TriggerMatches$Text", "openFirst", "[I", true)
  | 7 => ("TriggerMatches$Text", "depth", "I", false)
  | _ => ("TriggerMatches$Text", "place", "I", false)
def tyX9 : Nat → FieldType := fun k => match k with
  | 0 => .array .int
  | 1 => .int
  | 2 => .object "TriggerMatches$State"
  | 3 => .object "TriggerMatches$Builder"
  | 4 => .object "TriggerMatches$Pattern"
  | 5 => .array .int
  | 6 => .array .int
  | 7 => .int
  | _ => .int
theorem nmX9 : ∀ a, a < 9 → ∀ b, b < 9 → a ≠ b → (TX9 a).2.1 ≠ (TX9 b).2.1 := by decide +kernel
theorem tyX9_ok : ∀ k, k < 9 → parseFieldDescriptor (TX9 k).2.2.1 = some (tyX9 k) := by decide +kernel
abbrev cX9_init : ByteArray := prog_11_method_1_code
def yX9_init : MethodName := ⟨RX9, "<init>", "(LTriggerMatches$State;LTriggerMatches$Builder;)V"⟩
abbrev cX9_read : ByteArray := prog_11_method_2_code
def yX9_read : MethodName := ⟨RX9, "read", "()I"⟩
abbrev cX9_peek : ByteArray := prog_11_method_3_code
def yX9_peek : MethodName := ⟨RX9, "peek", "()I"⟩
abbrev cX9_take : ByteArray := prog_11_method_4_code
def yX9_take : MethodName := ⟨RX9, "take", "(I)Z"⟩
abbrev cX9_sentence : ByteArray := prog_11_method_5_code
def yX9_sentence : MethodName := ⟨RX9, "sentence", "()Z"⟩
abbrev cX9_ruleSentence : ByteArray := prog_11_method_6_code
def yX9_ruleSentence : MethodName := ⟨RX9, "ruleSentence", "(I)Z"⟩
abbrev cX9_termSentence : ByteArray := prog_11_method_7_code
def yX9_termSentence : MethodName := ⟨RX9, "termSentence", "()Z"⟩
abbrev cX9_readSide : ByteArray := prog_11_method_8_code
def yX9_readSide : MethodName := ⟨RX9, "readSide", "(I)Z"⟩
abbrev cX9_open : ByteArray := prog_11_method_9_code
def yX9_open : MethodName := ⟨RX9, "open", "(I)Z"⟩
abbrev cX9_closeBehind : ByteArray := prog_11_method_10_code
def yX9_closeBehind : MethodName := ⟨RX9, "closeBehind", "(I)Z"⟩
abbrev cX9_signOf : ByteArray := prog_11_method_11_code
def yX9_signOf : MethodName := ⟨RX9, "signOf", "(I)I"⟩
def RX10 : String := "TriggerMatches$Writer"
def TX10 : u_T := fun k => match k with
  | 0 => ("TriggerMatches$Writer", "page", "[I", true)
  | 1 => ("TriggerMatches$Writer", "stack", "[I", true)
  | 2 => ("TriggerMatches$Writer", "depth", "I", false)
  | _ => ("TriggerMatches$Writer", "length", "I", false)
def tyX10 : Nat → FieldType := fun k => match k with
  | 0 => .array .int
  | 1 => .array .int
  | 2 => .int
  | _ => .int
theorem nmX10 : ∀ a, a < 4 → ∀ b, b < 4 → a ≠ b → (TX10 a).2.1 ≠ (TX10 b).2.1 := by decide +kernel
theorem tyX10_ok : ∀ k, k < 4 → parseFieldDescriptor (TX10 k).2.2.1 = some (tyX10 k) := by decide +kernel
abbrev cX10_init : ByteArray := prog_12_method_1_code
def yX10_init : MethodName := ⟨RX10, "<init>", "()V"⟩
abbrev cX10_write : ByteArray := prog_12_method_2_code
def yX10_write : MethodName := ⟨RX10, "write", "(LTriggerMatches$Terms;I)I"⟩
abbrev cX10_writeTerm : ByteArray := prog_12_method_3_code
def yX10_writeTerm : MethodName := ⟨RX10, "writeTerm", "(LTriggerMatches$Terms;I)V"⟩
abbrev cX10_push : ByteArray := prog_12_method_4_code
def yX10_push : MethodName := ⟨RX10, "push", "(I)V"⟩
def RX11 : String := "TriggerMatches"
def TX11 : u_T := fun k => match k with
  | 0 => ("TriggerMatches", "now", "LTriggerMatches$State;", true)
  | 1 => ("TriggerMatches", "states", "LTriggerMatches$States;", true)
  | 2 => ("TriggerMatches", "standing", "LTriggerMatches$Standing;", true)
  | 3 => ("TriggerMatches", "builder", "LTriggerMatches$Builder;", true)
  | 4 => ("TriggerMatches", "search", "LTriggerMatches$Search;", true)
  | 5 => ("TriggerMatches", "oneRound", "LTriggerMatches$Round;", true)
  | 6 => ("TriggerMatches", "text", "LTriggerMatches$Text;", true)
  | 7 => ("TriggerMatches", "writer", "LTriggerMatches$Writer;", true)
  | 8 => ("TriggerMatches", "refused", "[I", true)
  | 9 => ("TriggerMatches", "order", "I", false)
  | _ => ("TriggerMatches", "limit", "I", false)
def tyX11 : Nat → FieldType := fun k => match k with
  | 0 => .object "TriggerMatches$State"
  | 1 => .object "TriggerMatches$States"
  | 2 => .object "TriggerMatches$Standing"
  | 3 => .object "TriggerMatches$Builder"
  | 4 => .object "TriggerMatches$Search"
  | 5 => .object "TriggerMatches$Round"
  | 6 => .object "TriggerMatches$Text"
  | 7 => .object "TriggerMatches$Writer"
  | 8 => .array .int
  | 9 => .int
  | _ => .int
theorem nmX11 : ∀ a, a < 11 → ∀ b, b < 11 → a ≠ b → (TX11 a).2.1 ≠ (TX11 b).2.1 := by decide +kernel
theorem tyX11_ok : ∀ k, k < 11 → parseFieldDescriptor (TX11 k).2.2.1 = some (tyX11 k) := by decide +kernel
abbrev cX11_init : ByteArray := prog_1_method_1_code
def yX11_init : MethodName := ⟨RX11, "<init>", "()V"⟩
abbrev cX11_term : ByteArray := prog_1_method_2_code
def yX11_term : MethodName := ⟨RX11, "term", "(III)I"⟩
abbrev cX11_alike : ByteArray := prog_1_method_3_code
def yX11_alike : MethodName := ⟨RX11, "alike", "(II)I"⟩
abbrev cX11_anew : ByteArray := prog_1_method_4_code
def yX11_anew : MethodName := ⟨RX11, "anew", "()I"⟩
abbrev cX11_of : ByteArray := prog_1_method_5_code
def yX11_of : MethodName := ⟨RX11, "of", "(II)I"⟩
abbrev cX11_same : ByteArray := prog_1_method_6_code
def yX11_same : MethodName := ⟨RX11, "same", "(II)I"⟩
abbrev cX11_classes : ByteArray := prog_1_method_7_code
def yX11_classes : MethodName := ⟨RX11, "classes", "()I"⟩
abbrev cX11_about : ByteArray := prog_1_method_8_code
def yX11_about : MethodName := ⟨RX11, "about", "(II)I"⟩
abbrev cX11_rule : ByteArray := prog_1_method_9_code
def yX11_rule : MethodName := ⟨RX11, "rule", "(II)I"⟩
abbrev cX11_finding : ByteArray := prog_1_method_10_code
def yX11_finding : MethodName := ⟨RX11, "finding", "(III)I"⟩
abbrev cX11_drop : ByteArray := prog_1_method_11_code
def yX11_drop : MethodName := ⟨RX11, "drop", "(I)I"⟩
abbrev cX11_sets : ByteArray := prog_1_method_12_code
def yX11_sets : MethodName := ⟨RX11, "sets", "(II)I"⟩
abbrev cX11_round : ByteArray := prog_1_method_13_code
def yX11_round : MethodName := ⟨RX11, "round", "()I"⟩
abbrev cX11_rounds : ByteArray := prog_1_method_14_code
def yX11_rounds : MethodName := ⟨RX11, "rounds", "(I)I"⟩
abbrev cX11_last : ByteArray := prog_1_method_15_code
def yX11_last : MethodName := ⟨RX11, "last", "(I)I"⟩
abbrev cX11_still : ByteArray := prog_1_method_16_code
def yX11_still : MethodName := ⟨RX11, "still", "()I"⟩
abbrev cX11_type : ByteArray := prog_1_method_17_code
def yX11_type : MethodName := ⟨RX11, "type", "(I)I"⟩
abbrev cX11_clear : ByteArray := prog_1_method_18_code
def yX11_clear : MethodName := ⟨RX11, "clear", "()I"⟩
abbrev cX11_reads : ByteArray := prog_1_method_19_code
def yX11_reads : MethodName := ⟨RX11, "reads", "()I"⟩
abbrev cX11_writing : ByteArray := prog_1_method_20_code
def yX11_writing : MethodName := ⟨RX11, "writing", "(II)I"⟩
abbrev cX11_back : ByteArray := prog_1_method_21_code
def yX11_back : MethodName := ⟨RX11, "back", "()I"⟩
abbrev cX11_told : ByteArray := prog_1_method_22_code
def yX11_told : MethodName := ⟨RX11, "told", "(I)I"⟩
abbrev cX11_digest : ByteArray := prog_1_method_23_code
def yX11_digest : MethodName := ⟨RX11, "digest", "()J"⟩
abbrev cX11_refuse : ByteArray := prog_1_method_24_code
def yX11_refuse : MethodName := ⟨RX11, "refuse", "(I)I"⟩
abbrev cX11_settleAll : ByteArray := prog_1_method_25_code
def yX11_settleAll : MethodName := ⟨RX11, "settleAll", "()V"⟩
def RX12 : String := "TriggerMatchesModel"
def TX12 : u_T := fun k => match k with
  | 0 => ("TriggerMatchesModel", "s", "[I", true)
  | 1 => ("TriggerMatchesModel", "past", "[I", true)
  | 2 => ("TriggerMatchesModel", "known", "I", false)
  | 3 => ("TriggerMatchesModel", "spare", "[I", true)
  | 4 => ("TriggerMatchesModel", "order", "[I", true)
  | 5 => ("TriggerMatchesModel", "last", "[I", true)
  | 6 => ("TriggerMatchesModel", "lastKept", "[I", true)
  | 7 => ("TriggerMatchesModel", "refused", "[I", true)
  | 8 => ("TriggerMatchesModel", "text", "[I", true)
  | 9 => ("TriggerMatchesModel", "typed", "I", false)
  | 10 => ("TriggerMatchesModel", "at", "I", false)
  | 11 => ("TriggerMatchesModel", "one", "[I", true)
  | 12 => ("TriggerMatchesModel", "ones", "I", false)
  | 13 => ("TriggerMatchesModel", "other", "[I", true)
  | 14 => ("TriggerMatchesModel", "others", "I", false)
  | 15 => ("TriggerMatchesModel", "size", "I", false)
  | 16 => ("TriggerMatchesModel", "letters", "I", false)
  | 17 => ("TriggerMatchesModel", "waits", "[I", true)
  | 18 => ("TriggerMatchesModel", "firsts", "[I", true)
  | 19 => ("TriggerMatchesModel", "needs", "[I", true)
  | 20 => ("TriggerMatchesModel", "over", "Z", false)
  | 21 => ("TriggerMatchesModel", "plain", "[I", true)
  | 22 => ("TriggerMatchesModel", "single", "[I", true)
  | 23 => ("TriggerMatchesModel", "pair", "[I", true)
  | 24 => ("TriggerMatchesModel", "least", "[I", true)
  | 25 => ("TriggerMatchesModel", "found", "[I", true)
  | 26 => ("TriggerMatchesModel", "many", "[I", true)
  | 27 => ("TriggerMatchesModel", "values", "[I", true)
  | 28 => ("TriggerMatchesModel", "stands", "[I", true)
  | 29 => ("TriggerMatchesModel", "costs", "[I", true)
  | 30 => ("TriggerMatchesModel", "stack", "[I", true)
  | 31 => ("TriggerMatchesModel", "left", "I", false)
  | _ => ("TriggerMatchesModel", "young", "Z", false)
def tyX12 : Nat → FieldType := fun k => match k with
  | 0 => .array .int
  | 1 => .array .int
  | 2 => .int
  | 3 => .array .int
  | 4 => .array .int
  | 5 => .array .int
  | 6 => .array .int
  | 7 => .array .int
  | 8 => .array .int
  | 9 => .int
  | 10 => .int
  | 11 => .array .int
  | 12 => .int
  | 13 => .array .int
  | 14 => .int
  | 15 => .int
  | 16 => .int
  | 17 => .array .int
  | 18 => .array .int
  | 19 => .array .int
  | 20 => .boolean
  | 21 => .array .int
  | 22 => .array .int
  | 23 => .array .int
  | 24 => .array .int
  | 25 => .array .int
  | 26 => .array .int
  | 27 => .array .int
  | 28 => .array .int
  | 29 => .array .int
  | 30 => .array .int
  | 31 => .int
  | _ => .boolean
theorem nmX12 : ∀ a, a < 33 → ∀ b, b < 33 → a ≠ b → (TX12 a).2.1 ≠ (TX12 b).2.1 := by decide +kernel
theorem tyX12_ok : ∀ k, k < 33 → parseFieldDescriptor (TX12 k).2.2.1 = some (tyX12 k) := by decide +kernel
abbrev cX12_init : ByteArray := prog_14_method_1_code
def yX12_init : MethodName := ⟨RX12, "<init>", "()V"⟩
abbrev cX12_in : ByteArray := prog_14_method_3_code
def yX12_in : MethodName := ⟨RX12, "in", "(III)Z"⟩
abbrev cX12_refuses : ByteArray := prog_14_method_4_code
def yX12_refuses : MethodName := ⟨RX12, "refuses", "(I)I"⟩
abbrev cX12_isTerm : ByteArray := prog_14_method_5_code
def yX12_isTerm : MethodName := ⟨RX12, "isTerm", "(I)Z"⟩
abbrev cX12_isRule : ByteArray := prog_14_method_6_code
def yX12_isRule : MethodName := ⟨RX12, "isRule", "(I)Z"⟩
abbrev cX12_arity : ByteArray := prog_14_method_7_code
def yX12_arity : MethodName := ⟨RX12, "arity", "(I)I"⟩
abbrev cX12_classOf : ByteArray := prog_14_method_8_code
def yX12_classOf : MethodName := ⟨RX12, "classOf", "(I)I"⟩
abbrev cX12_keeps : ByteArray := prog_14_method_9_code
def yX12_keeps : MethodName := ⟨RX12, "keeps", "()V"⟩
abbrev cX12_termOf : ByteArray := prog_14_method_10_code
def yX12_termOf : MethodName := ⟨RX12, "termOf", "(III)I"⟩
abbrev cX12_comes : ByteArray := prog_14_method_11_code
def yX12_comes : MethodName := ⟨RX12, "comes", "(IIII)I"⟩
abbrev cX12_joins : ByteArray := prog_14_method_12_code
def yX12_joins : MethodName := ⟨RX12, "joins", "(II)Z"⟩
abbrev cX12_isPart : ByteArray := prog_14_method_13_code
def yX12_isPart : MethodName := ⟨RX12, "isPart", "(II)Z"⟩
abbrev cX12_closes : ByteArray := prog_14_method_14_code
def yX12_closes : MethodName := ⟨RX12, "closes", "()V"⟩
abbrev cX12_classesOf : ByteArray := prog_14_method_15_code
def yX12_classesOf : MethodName := ⟨RX12, "classesOf", "(I)I"⟩
abbrev cX12_term : ByteArray := prog_14_method_16_code
def yX12_term : MethodName := ⟨RX12, "term", "(III)I"⟩
abbrev cX12_alike : ByteArray := prog_14_method_17_code
def yX12_alike : MethodName := ⟨RX12, "alike", "(II)I"⟩
abbrev cX12_anew : ByteArray := prog_14_method_18_code
def yX12_anew : MethodName := ⟨RX12, "anew", "()I"⟩
abbrev cX12_of : ByteArray := prog_14_method_19_code
def yX12_of : MethodName := ⟨RX12, "of", "(II)I"⟩
abbrev cX12_same : ByteArray := prog_14_method_20_code
def yX12_same : MethodName := ⟨RX12, "same", "(II)I"⟩
abbrev cX12_classes : ByteArray := prog_14_method_21_code
def yX12_classes : MethodName := ⟨RX12, "classes", "()I"⟩
abbrev cX12_costOf : ByteArray := prog_14_method_22_code
def yX12_costOf : MethodName := ⟨RX12, "costOf", "(I)I"⟩
abbrev cX12_about : ByteArray := prog_14_method_23_code
def yX12_about : MethodName := ⟨RX12, "about", "(II)I"⟩
abbrev cX12_signAt : ByteArray := prog_14_method_24_code
def yX12_signAt : MethodName := ⟨RX12, "signAt", "(IZI)I"⟩
abbrev cX12_sizeOf : ByteArray := prog_14_method_25_code
def yX12_sizeOf : MethodName := ⟨RX12, "sizeOf", "(IZ)I"⟩
abbrev cX12_lettersOf : ByteArray := prog_14_method_26_code
def yX12_lettersOf : MethodName := ⟨RX12, "lettersOf", "(I)I"⟩
abbrev cX12_signsOf : ByteArray := prog_14_method_27_code
def yX12_signsOf : MethodName := ⟨RX12, "signsOf", "(IZ)I"⟩
abbrev cX12_table : ByteArray := prog_14_method_28_code
def yX12_table : MethodName := ⟨RX12, "table", "()V"⟩
abbrev cX12_placeOf : ByteArray := prog_14_method_29_code
def yX12_placeOf : MethodName := ⟨RX12, "placeOf", "(I)I"⟩
abbrev cX12_meets : ByteArray := prog_14_method_30_code
def yX12_meets : MethodName := ⟨RX12, "meets", "(I)V"⟩
abbrev cX12_isStand : ByteArray := prog_14_method_31_code
def yX12_isStand : MethodName := ⟨RX12, "isStand", "(III)Z"⟩
abbrev cX12_finds : ByteArray := prog_14_method_32_code
def yX12_finds : MethodName := ⟨RX12, "finds", "(I)V"⟩
abbrev cX12_rule : ByteArray := prog_14_method_33_code
def yX12_rule : MethodName := ⟨RX12, "rule", "(II)I"⟩
abbrev cX12_finding : ByteArray := prog_14_method_34_code
def yX12_finding : MethodName := ⟨RX12, "finding", "(III)I"⟩
abbrev cX12_drop : ByteArray := prog_14_method_35_code
def yX12_drop : MethodName := ⟨RX12, "drop", "(I)I"⟩
abbrev cX12_sets : ByteArray := prog_14_method_36_code
def yX12_sets : MethodName := ⟨RX12, "sets", "(II)I"⟩
abbrev cX12_waiting : ByteArray := prog_14_method_37_code
def yX12_waiting : MethodName := ⟨RX12, "waiting", "(III)I"⟩
abbrev cX12_made : ByteArray := prog_14_method_38_code
def yX12_made : MethodName := ⟨RX12, "made", "(I)V"⟩
abbrev cX12_builds : ByteArray := prog_14_method_39_code
def yX12_builds : MethodName := ⟨RX12, "builds", "([IIII)I"⟩
abbrev cX12_does : ByteArray := prog_14_method_40_code
def yX12_does : MethodName := ⟨RX12, "does", "(II)Z"⟩
abbrev cX12_doesAll : ByteArray := prog_14_method_41_code
def yX12_doesAll : MethodName := ⟨RX12, "doesAll", "(III)I"⟩
abbrev cX12_goesRound : ByteArray := prog_14_method_42_code
def yX12_goesRound : MethodName := ⟨RX12, "goesRound", "()I"⟩
abbrev cX12_round : ByteArray := prog_14_method_43_code
def yX12_round : MethodName := ⟨RX12, "round", "()I"⟩
abbrev cX12_rounds : ByteArray := prog_14_method_44_code
def yX12_rounds : MethodName := ⟨RX12, "rounds", "(I)I"⟩
abbrev cX12_last : ByteArray := prog_14_method_45_code
def yX12_last : MethodName := ⟨RX12, "last", "(I)I"⟩
abbrev cX12_still : ByteArray := prog_14_method_46_code
def yX12_still : MethodName := ⟨RX12, "still", "()I"⟩
abbrev cX12_type : ByteArray := prog_14_method_47_code
def yX12_type : MethodName := ⟨RX12, "type", "(I)I"⟩
abbrev cX12_clear : ByteArray := prog_14_method_48_code
def yX12_clear : MethodName := ⟨RX12, "clear", "()I"⟩
abbrev cX12_byteAt : ByteArray := prog_14_method_49_code
def yX12_byteAt : MethodName := ⟨RX12, "byteAt", "(I)I"⟩
abbrev cX12_skips : ByteArray := prog_14_method_50_code
def yX12_skips : MethodName := ⟨RX12, "skips", "()V"⟩
abbrev cX12_is : ByteArray := prog_14_method_51_code
def yX12_is : MethodName := ⟨RX12, "is", "(I)Z"⟩
abbrev cX12_signBy : ByteArray := prog_14_method_52_code
def yX12_signBy : MethodName := ⟨RX12, "signBy", "(I)I"⟩
abbrev cX12_side : ByteArray := prog_14_method_53_code
def yX12_side : MethodName := ⟨RX12, "side", "([II)Z"⟩
abbrev cX12_rules : ByteArray := prog_14_method_54_code
def yX12_rules : MethodName := ⟨RX12, "rules", "()V"⟩
abbrev cX12_sentence : ByteArray := prog_14_method_55_code
def yX12_sentence : MethodName := ⟨RX12, "sentence", "()Z"⟩
abbrev cX12_reads : ByteArray := prog_14_method_56_code
def yX12_reads : MethodName := ⟨RX12, "reads", "()I"⟩
abbrev cX12_letterOf : ByteArray := prog_14_method_57_code
def yX12_letterOf : MethodName := ⟨RX12, "letterOf", "(I)I"⟩
abbrev cX12_writing : ByteArray := prog_14_method_58_code
def yX12_writing : MethodName := ⟨RX12, "writing", "(II)I"⟩
abbrev cX12_back : ByteArray := prog_14_method_59_code
def yX12_back : MethodName := ⟨RX12, "back", "()I"⟩
abbrev cX12_toldOf : ByteArray := prog_14_method_60_code
def yX12_toldOf : MethodName := ⟨RX12, "toldOf", "(I)I"⟩
abbrev cX12_told : ByteArray := prog_14_method_61_code
def yX12_told : MethodName := ⟨RX12, "told", "(I)I"⟩
abbrev cX12_digest : ByteArray := prog_14_method_62_code
def yX12_digest : MethodName := ⟨RX12, "digest", "()J"⟩
def RJ6 : String := "java/lang/Integer"
abbrev cJ6_bitCount_0f7a4 : ByteArray := prog_15_method_49_code
def yJ6_bitCount_0f7a4 : MethodName := ⟨RJ6, "bitCount", "(I)I"⟩
def RJ9 : String := "java/lang/Math"
abbrev cJ9_max_7cf53 : ByteArray := prog_16_method_65_code
def yJ9_max_7cf53 : MethodName := ⟨RJ9, "max", "(II)I"⟩
abbrev cJ9_min_7cf53 : ByteArray := prog_16_method_69_code
def yJ9_min_7cf53 : MethodName := ⟨RJ9, "min", "(II)I"⟩
def RJ0 : String := "java/lang/String"
abbrev cJ0_charAt_5068e : ByteArray := prog_17_method_56_code
def yJ0_charAt_5068e : MethodName := ⟨RJ0, "charAt", "(I)C"⟩
abbrev cJ0_isLatin1_aae02 : ByteArray := prog_17_method_154_code
def yJ0_isLatin1_aae02 : MethodName := ⟨RJ0, "isLatin1", "()Z"⟩
abbrev cJ0_checkIndex_df160 : ByteArray := prog_17_method_155_code
def yJ0_checkIndex_df160 : MethodName := ⟨RJ0, "checkIndex", "(II)V"⟩
def RJ1 : String := "java/lang/StringLatin1"
abbrev cJ1_charAt_3b067 : ByteArray := prog_18_method_2_code
def yJ1_charAt_3b067 : MethodName := ⟨RJ1, "charAt", "([BI)C"⟩
def RJ2 : String := "java/lang/StringUTF16"
abbrev cJ2_getChar_3b067 : ByteArray := prog_19_method_5_code
def yJ2_getChar_3b067 : MethodName := ⟨RJ2, "getChar", "([BI)C"⟩
abbrev cJ2_length_9d52b : ByteArray := prog_19_method_6_code
def yJ2_length_9d52b : MethodName := ⟨RJ2, "length", "([B)I"⟩
abbrev cJ2_charAt_3b067 : ByteArray := prog_19_method_83_code
def yJ2_charAt_3b067 : MethodName := ⟨RJ2, "charAt", "([BI)C"⟩
abbrev cJ2_checkIndex_2214a : ByteArray := prog_19_method_91_code
def yJ2_checkIndex_2214a : MethodName := ⟨RJ2, "checkIndex", "(I[B)V"⟩
def RJ10 : String := "java/lang/System"
def RJ7 : String := "java/util/Arrays"
abbrev cJ7_fill_d0a16 : ByteArray := prog_21_method_101_code
def yJ7_fill_d0a16 : MethodName := ⟨RJ7, "fill", "([JJ)V"⟩
abbrev cJ7_fill_53178 : ByteArray := prog_21_method_103_code
def yJ7_fill_53178 : MethodName := ⟨RJ7, "fill", "([II)V"⟩
def RJ3 : String := "jdk/internal/util/Preconditions"
abbrev cJ3_checkIndex_8e157 : ByteArray := prog_22_method_11_code
def yJ3_checkIndex_8e157 : MethodName := ⟨RJ3, "checkIndex", "(IILjava/util/function/BiFunction;)I"⟩
def RL : String := "TriggerMatchesLaw"
abbrev cL_law : ByteArray := code
def yL_law : MethodName := ⟨RL, "law", "([I)Z"⟩
abbrev vwCl : List vw_C := [(RX0, TX0, 3), (RX1, TX1, 2), (RX2, TX2, 6), (RX3, TX3, 8), (RX4, TX4, 7), (RX5, TX5, 8), (RX6, TX6, 4), (RX7, TX7, 3), (RX8, TX8, 6), (RX9, TX9, 9), (RX10, TX10, 4), (RX11, TX11, 11), (RX12, TX12, 33)]
end
section
theorem dX0_init_0 : decode cX0_init 0 = .ok (.aload_n 0, 1) := by decide +kernel
theorem dX0_init_1 : decode cX0_init 1 = .ok (.invokespecial 3, 3) := by decide +kernel
theorem dX0_init_4 : decode cX0_init 4 = .ok (.aload_n 0, 1) := by decide +kernel
theorem dX0_init_5 : decode cX0_init 5 = .ok (.iconst 3, 1) := by decide +kernel
theorem dX0_init_6 : decode cX0_init 6 = .ok (.newarray .int, 2) := by decide +kernel
theorem dX0_init_8 : decode cX0_init 8 = .ok (.putfield 9, 3) := by decide +kernel
theorem dX0_init_11 : decode cX0_init 11 = .ok (.aload_n 0, 1) := by decide +kernel
theorem dX0_init_12 : decode cX0_init 12 = .ok (.bipush 120, 2) := by decide +kernel
theorem dX0_init_14 : decode cX0_init 14 = .ok (.newarray .int, 2) := by decide +kernel
theorem dX0_init_16 : decode cX0_init 16 = .ok (.putfield 15, 3) := by decide +kernel
theorem dX0_init_19 : decode cX0_init 19 = .ok (.aload_n 0, 1) := by decide +kernel
theorem dX0_init_20 : decode cX0_init 20 = .ok (.aload_n 1, 1) := by decide +kernel
theorem dX0_init_21 : decode cX0_init 21 = .ok (.putfield 18, 3) := by decide +kernel
theorem dX0_init_24 : decode cX0_init 24 = .ok (.return_, 1) := by decide +kernel
theorem dX0_build_0 : decode cX0_build 0 = .ok (.aload_n 0, 1) := by decide +kernel
theorem dX0_build_1 : decode cX0_build 1 = .ok (.getfield 18, 3) := by decide +kernel
theorem dX0_build_4 : decode cX0_build 4 = .ok (.getfield 22, 3) := by decide +kernel
theorem dX0_build_7 : decode cX0_build 7 = .ok (.istore 5, 2) := by decide +kernel
theorem dX0_build_9 : decode cX0_build 9 = .ok (.iconst (-1), 1) := by decide +kernel
theorem dX0_build_10 : decode cX0_build 10 = .ok (.istore 6, 2) := by decide +kernel
theorem dX0_build_12 : decode cX0_build 12 = .ok (.iload_n 2, 1) := by decide +kernel
theorem dX0_build_13 : decode cX0_build 13 = .ok (.istore 7, 2) := by decide +kernel
theorem dX0_build_15 : decode cX0_build 15 = .ok (.iload 7, 2) := by decide +kernel
theorem dX0_build_17 : decode cX0_build 17 = .ok (.iload_n 3, 1) := by decide +kernel
theorem dX0_build_18 : decode cX0_build 18 = .ok (.if_icmp .ge 62, 3) := by decide +kernel
theorem dX0_build_21 : decode cX0_build 21 = .ok (.iload 7, 2) := by decide +kernel
theorem dX0_build_23 : decode cX0_build 23 = .ok (.aload_n 1, 1) := by decide +kernel
theorem dX0_build_24 : decode cX0_build 24 = .ok (.getfield 28, 3) := by decide +kernel
theorem dX0_build_27 : decode cX0_build 27 = .ok (.if_icmp .ge 53, 3) := by decide +kernel
theorem dX0_build_30 : decode cX0_build 30 = .ok (.iload 7, 2) := by decide +kernel
theorem dX0_build_32 : decode cX0_build 32 = .ok (.bipush 120, 2) := by decide +kernel
theorem dX0_build_34 : decode cX0_build 34 = .ok (.if_icmp .ge 46, 3) := by decide +kernel
theorem dX0_build_37 : decode cX0_build 37 = .ok (.aload_n 0, 1) := by decide +kernel
theorem dX0_build_38 : decode cX0_build 38 = .ok (.aload_n 1, 1) := by decide +kernel
theorem dX0_build_39 : decode cX0_build 39 = .ok (.iload 7, 2) := by decide +kernel
theorem dX0_build_41 : decode cX0_build 41 = .ok (.iload 4, 2) := by decide +kernel
theorem dX0_build_43 : decode cX0_build 43 = .ok (.invokevirtual 31, 3) := by decide +kernel
theorem dX0_build_46 : decode cX0_build 46 = .ok (.istore 6, 2) := by decide +kernel
theorem dX0_build_48 : decode cX0_build 48 = .ok (.aload_n 0, 1) := by decide +kernel
theorem dX0_build_49 : decode cX0_build 49 = .ok (.getfield 15, 3) := by decide +kernel
theorem dX0_build_52 : decode cX0_build 52 = .ok (.iload 7, 2) := by decide +kernel
theorem dX0_build_54 : decode cX0_build 54 = .ok (.iload 6, 2) := by decide +kernel
theorem dX0_build_56 : decode cX0_build 56 = .ok (.iastore, 1) := by decide +kernel
theorem dX0_build_57 : decode cX0_build 57 = .ok (.iload 6, 2) := by decide +kernel
theorem dX0_build_59 : decode cX0_build 59 = .ok (.iconst (-1), 1) := by decide +kernel
theorem dX0_build_60 : decode cX0_build 60 = .ok (.if_icmp .ne 14, 3) := by decide +kernel
theorem dX0_build_63 : decode cX0_build 63 = .ok (.aload_n 0, 1) := by decide +kernel
theorem dX0_build_64 : decode cX0_build 64 = .ok (.getfield 18, 3) := by decide +kernel
theorem dX0_build_67 : decode cX0_build 67 = .ok (.iload 5, 2) := by decide +kernel
theorem dX0_build_69 : decode cX0_build 69 = .ok (.putfield 22, 3) := by decide +kernel
theorem dX0_build_72 : decode cX0_build 72 = .ok (.iconst (-1), 1) := by decide +kernel
theorem dX0_build_73 : decode cX0_build 73 = .ok (.ireturn, 1) := by decide +kernel
theorem dX0_build_74 : decode cX0_build 74 = .ok (.iinc 7 1, 3) := by decide +kernel
theorem dX0_build_77 : decode cX0_build 77 = .ok (.goto (-62), 3) := by decide +kernel
theorem dX0_build_80 : decode cX0_build 80 = .ok (.iload 6, 2) := by decide +kernel
theorem dX0_build_82 : decode cX0_build 82 = .ok (.ireturn, 1) := by decide +kernel
theorem dX0_termOf_0 : decode cX0_termOf 0 = .ok (.aload_n 1, 1) := by decide +kernel
theorem dX0_termOf_1 : decode cX0_termOf 1 = .ok (.getfield 35, 3) := by decide +kernel
theorem dX0_termOf_4 : decode cX0_termOf 4 = .ok (.iload_n 2, 1) := by decide +kernel
theorem dX0_termOf_5 : decode cX0_termOf 5 = .ok (.iaload, 1) := by decide +kernel
theorem dX0_termOf_6 : decode cX0_termOf 6 = .ok (.istore 4, 2) := by decide +kernel
theorem dX0_termOf_8 : decode cX0_termOf 8 = .ok (.iload 4, 2) := by decide +kernel
theorem dX0_termOf_10 : decode cX0_termOf 10 = .ok (.bipush 7, 2) := by decide +kernel
theorem dX0_termOf_12 : decode cX0_termOf 12 = .ok (.if_icmp .lt 25, 3) := by decide +kernel
theorem dX0_termOf_15 : decode cX0_termOf 15 = .ok (.iload 4, 2) := by decide +kernel
theorem dX0_termOf_17 : decode cX0_termOf 17 = .ok (.bipush 10, 2) := by decide +kernel
theorem dX0_termOf_19 : decode cX0_termOf 19 = .ok (.if_icmp .ge 16, 3) := by decide +kernel
theorem dX0_termOf_22 : decode cX0_termOf 22 = .ok (.aload_n 0, 1) := by decide +kernel
theorem dX0_termOf_23 : decode cX0_termOf 23 = .ok (.getfield 9, 3) := by decide +kernel
theorem dX0_termOf_26 : decode cX0_termOf 26 = .ok (.iload 4, 2) := by decide +kernel
theorem dX0_termOf_28 : decode cX0_termOf 28 = .ok (.bipush 7, 2) := by decide +kernel
theorem dX0_termOf_30 : decode cX0_termOf 30 = .ok (.isub, 1) := by decide +kernel
theorem dX0_termOf_31 : decode cX0_termOf 31 = .ok (.iaload, 1) := by decide +kernel
theorem dX0_termOf_32 : decode cX0_termOf 32 = .ok (.goto 4, 3) := by decide +kernel
theorem dX0_termOf_35 : decode cX0_termOf 35 = .ok (.iconst (-1), 1) := by decide +kernel
theorem dX0_termOf_36 : decode cX0_termOf 36 = .ok (.ireturn, 1) := by decide +kernel
theorem dX0_termOf_37 : decode cX0_termOf 37 = .ok (.aload_n 0, 1) := by decide +kernel
theorem dX0_termOf_38 : decode cX0_termOf 38 = .ok (.aload_n 1, 1) := by decide +kernel
theorem dX0_termOf_39 : decode cX0_termOf 39 = .ok (.getfield 38, 3) := by decide +kernel
theorem dX0_termOf_42 : decode cX0_termOf 42 = .ok (.iload_n 2, 1) := by decide +kernel
theorem dX0_termOf_43 : decode cX0_termOf 43 = .ok (.iaload, 1) := by decide +kernel
theorem dX0_termOf_44 : decode cX0_termOf 44 = .ok (.invokevirtual 41, 3) := by decide +kernel
theorem dX0_termOf_47 : decode cX0_termOf 47 = .ok (.istore 5, 2) := by decide +kernel
theorem dX0_termOf_49 : decode cX0_termOf 49 = .ok (.aload_n 0, 1) := by decide +kernel
theorem dX0_termOf_50 : decode cX0_termOf 50 = .ok (.aload_n 1, 1) := by decide +kernel
theorem dX0_termOf_51 : decode cX0_termOf 51 = .ok (.getfield 45, 3) := by decide +kernel
theorem dX0_termOf_54 : decode cX0_termOf 54 = .ok (.iload_n 2, 1) := by decide +kernel
theorem dX0_termOf_55 : decode cX0_termOf 55 = .ok (.iaload, 1) := by decide +kernel
theorem dX0_termOf_56 : decode cX0_termOf 56 = .ok (.invokevirtual 41, 3) := by decide +kernel
theorem dX0_termOf_59 : decode cX0_termOf 59 = .ok (.istore 6, 2) := by decide +kernel
theorem dX0_termOf_61 : decode cX0_termOf 61 = .ok (.aload_n 0, 1) := by decide +kernel
theorem dX0_termOf_62 : decode cX0_termOf 62 = .ok (.getfield 18, 3) := by decide +kernel
theorem dX0_termOf_65 : decode cX0_termOf 65 = .ok (.iload 4, 2) := by decide +kernel
theorem dX0_termOf_67 : decode cX0_termOf 67 = .ok (.iload 5, 2) := by decide +kernel
theorem dX0_termOf_69 : decode cX0_termOf 69 = .ok (.iload 6, 2) := by decide +kernel
theorem dX0_termOf_71 : decode cX0_termOf 71 = .ok (.invokevirtual 48, 3) := by decide +kernel
theorem dX0_termOf_74 : decode cX0_termOf 74 = .ok (.istore 7, 2) := by decide +kernel
theorem dX0_termOf_76 : decode cX0_termOf 76 = .ok (.iload 7, 2) := by decide +kernel
theorem dX0_termOf_78 : decode cX0_termOf 78 = .ok (.iconst (-1), 1) := by decide +kernel
theorem dX0_termOf_79 : decode cX0_termOf 79 = .ok (.if_icmp .ne 20, 3) := by decide +kernel
theorem dX0_termOf_82 : decode cX0_termOf 82 = .ok (.aload_n 0, 1) := by decide +kernel
theorem dX0_termOf_83 : decode cX0_termOf 83 = .ok (.getfield 18, 3) := by decide +kernel
theorem dX0_termOf_86 : decode cX0_termOf 86 = .ok (.iload 4, 2) := by decide +kernel
theorem dX0_termOf_88 : decode cX0_termOf 88 = .ok (.iload 5, 2) := by decide +kernel
theorem dX0_termOf_90 : decode cX0_termOf 90 = .ok (.iload 6, 2) := by decide +kernel
theorem dX0_termOf_92 : decode cX0_termOf 92 = .ok (.iload_n 3, 1) := by decide +kernel
theorem dX0_termOf_93 : decode cX0_termOf 93 = .ok (.invokevirtual 52, 3) := by decide +kernel
theorem dX0_termOf_96 : decode cX0_termOf 96 = .ok (.goto 5, 3) := by decide +kernel
theorem dX0_termOf_99 : decode cX0_termOf 99 = .ok (.iload 7, 2) := by decide +kernel
theorem dX0_termOf_101 : decode cX0_termOf 101 = .ok (.ireturn, 1) := by decide +kernel
theorem dX0_madeOf_0 : decode cX0_madeOf 0 = .ok (.iload_n 1, 1) := by decide +kernel
theorem dX0_madeOf_1 : decode cX0_madeOf 1 = .ok (.ifCond .lt 18, 3) := by decide +kernel
theorem dX0_madeOf_4 : decode cX0_madeOf 4 = .ok (.iload_n 1, 1) := by decide +kernel
theorem dX0_madeOf_5 : decode cX0_madeOf 5 = .ok (.bipush 120, 2) := by decide +kernel
theorem dX0_madeOf_7 : decode cX0_madeOf 7 = .ok (.if_icmp .ge 12, 3) := by decide +kernel
theorem dX0_madeOf_10 : decode cX0_madeOf 10 = .ok (.aload_n 0, 1) := by decide +kernel
theorem dX0_madeOf_11 : decode cX0_madeOf 11 = .ok (.getfield 15, 3) := by decide +kernel
theorem dX0_madeOf_14 : decode cX0_madeOf 14 = .ok (.iload_n 1, 1) := by decide +kernel
theorem dX0_madeOf_15 : decode cX0_madeOf 15 = .ok (.iaload, 1) := by decide +kernel
theorem dX0_madeOf_16 : decode cX0_madeOf 16 = .ok (.goto 4, 3) := by decide +kernel
theorem dX0_madeOf_19 : decode cX0_madeOf 19 = .ok (.iconst (-1), 1) := by decide +kernel
theorem dX0_madeOf_20 : decode cX0_madeOf 20 = .ok (.ireturn, 1) := by decide +kernel
theorem dX1_init_0 : decode cX1_init 0 = .ok (.aload_n 0, 1) := by decide +kernel
theorem dX1_init_1 : decode cX1_init 1 = .ok (.invokespecial 3, 3) := by decide +kernel
theorem dX1_init_4 : decode cX1_init 4 = .ok (.aload_n 0, 1) := by decide +kernel
theorem dX1_init_5 : decode cX1_init 5 = .ok (.iconst 0, 1) := by decide +kernel
theorem dX1_init_6 : decode cX1_init 6 = .ok (.putfield 9, 3) := by decide +kernel
theorem dX1_init_9 : decode cX1_init 9 = .ok (.aload_n 0, 1) := by decide +kernel
theorem dX1_init_10 : decode cX1_init 10 = .ok (.iconst 0, 1) := by decide +kernel
theorem dX1_init_11 : decode cX1_init 11 = .ok (.iload_n 1, 1) := by decide +kernel
theorem dX1_init_12 : decode cX1_init 12 = .ok (.invokestatic 15, 3) := by decide +kernel
theorem dX1_init_15 : decode cX1_init 15 = .ok (.newarray .long, 2) := by decide +kernel
theorem dX1_init_17 : decode cX1_init 17 = .ok (.putfield 21, 3) := by decide +kernel
theorem dX1_init_20 : decode cX1_init 20 = .ok (.return_, 1) := by decide +kernel
theorem dX1_isFull_0 : decode cX1_isFull 0 = .ok (.aload_n 0, 1) := by decide +kernel
theorem dX1_isFull_1 : decode cX1_isFull 1 = .ok (.getfield 9, 3) := by decide +kernel
theorem dX1_isFull_4 : decode cX1_isFull 4 = .ok (.aload_n 0, 1) := by decide +kernel
theorem dX1_isFull_5 : decode cX1_isFull 5 = .ok (.getfield 21, 3) := by decide +kernel
theorem dX1_isFull_8 : decode cX1_isFull 8 = .ok (.arraylength, 1) := by decide +kernel
theorem dX1_isFull_9 : decode cX1_isFull 9 = .ok (.if_icmp .lt 7, 3) := by decide +kernel
theorem dX1_isFull_12 : decode cX1_isFull 12 = .ok (.iconst 1, 1) := by decide +kernel
theorem dX1_isFull_13 : decode cX1_isFull 13 = .ok (.goto 4, 3) := by decide +kernel
theorem dX1_isFull_16 : decode cX1_isFull 16 = .ok (.iconst 0, 1) := by decide +kernel
theorem dX1_isFull_17 : decode cX1_isFull 17 = .ok (.ireturn, 1) := by decide +kernel
theorem dX1_add_0 : decode cX1_add 0 = .ok (.aload_n 0, 1) := by decide +kernel
theorem dX1_add_1 : decode cX1_add 1 = .ok (.invokevirtual 25, 3) := by decide +kernel
theorem dX1_add_4 : decode cX1_add 4 = .ok (.ifCond .eq 4, 3) := by decide +kernel
theorem dX1_add_7 : decode cX1_add 7 = .ok (.return_, 1) := by decide +kernel
theorem dX1_add_8 : decode cX1_add 8 = .ok (.iload_n 1, 1) := by decide +kernel
theorem dX1_add_9 : decode cX1_add 9 = .ok (.iconst 1, 1) := by decide +kernel
theorem dX1_add_10 : decode cX1_add 10 = .ok (.iadd, 1) := by decide +kernel
theorem dX1_add_11 : decode cX1_add 11 = .ok (.i2l, 1) := by decide +kernel
theorem dX1_add_12 : decode cX1_add 12 = .ok (.lstore 7, 2) := by decide +kernel
theorem dX1_add_14 : decode cX1_add 14 = .ok (.lload 7, 2) := by decide +kernel
theorem dX1_add_16 : decode cX1_add 16 = .ok (.bipush 6, 2) := by decide +kernel
theorem dX1_add_18 : decode cX1_add 18 = .ok (.lshl, 1) := by decide +kernel
theorem dX1_add_19 : decode cX1_add 19 = .ok (.iload 6, 2) := by decide +kernel
theorem dX1_add_21 : decode cX1_add 21 = .ok (.iconst 1, 1) := by decide +kernel
theorem dX1_add_22 : decode cX1_add 22 = .ok (.iadd, 1) := by decide +kernel
theorem dX1_add_23 : decode cX1_add 23 = .ok (.i2l, 1) := by decide +kernel
theorem dX1_add_24 : decode cX1_add 24 = .ok (.lor, 1) := by decide +kernel
theorem dX1_add_25 : decode cX1_add 25 = .ok (.lstore 7, 2) := by decide +kernel
theorem dX1_add_27 : decode cX1_add 27 = .ok (.lload 7, 2) := by decide +kernel
theorem dX1_add_29 : decode cX1_add 29 = .ok (.bipush 6, 2) := by decide +kernel
theorem dX1_add_31 : decode cX1_add 31 = .ok (.lshl, 1) := by decide +kernel
theorem dX1_add_32 : decode cX1_add 32 = .ok (.iload 5, 2) := by decide +kernel
theorem dX1_add_34 : decode cX1_add 34 = .ok (.iconst 1, 1) := by decide +kernel
theorem dX1_add_35 : decode cX1_add 35 = .ok (.iadd, 1) := by decide +kernel
theorem dX1_add_36 : decode cX1_add 36 = .ok (.i2l, 1) := by decide +kernel
theorem dX1_add_37 : decode cX1_add 37 = .ok (.lor, 1) := by decide +kernel
theorem dX1_add_38 : decode cX1_add 38 = .ok (.lstore 7, 2) := by decide +kernel
theorem dX1_add_40 : decode cX1_add 40 = .ok (.lload 7, 2) := by decide +kernel
theorem dX1_add_42 : decode cX1_add 42 = .ok (.bipush 6, 2) := by decide +kernel
theorem dX1_add_44 : decode cX1_add 44 = .ok (.lshl, 1) := by decide +kernel
theorem dX1_add_45 : decode cX1_add 45 = .ok (.iload 4, 2) := by decide +kernel
theorem dX1_add_47 : decode cX1_add 47 = .ok (.iconst 1, 1) := by decide +kernel
theorem dX1_add_48 : decode cX1_add 48 = .ok (.iadd, 1) := by decide +kernel
theorem dX1_add_49 : decode cX1_add 49 = .ok (.i2l, 1) := by decide +kernel
theorem dX1_add_50 : decode cX1_add 50 = .ok (.lor, 1) := by decide +kernel
theorem dX1_add_51 : decode cX1_add 51 = .ok (.lstore 7, 2) := by decide +kernel
theorem dX1_add_53 : decode cX1_add 53 = .ok (.lload 7, 2) := by decide +kernel
theorem dX1_add_55 : decode cX1_add 55 = .ok (.bipush 6, 2) := by decide +kernel
theorem dX1_add_57 : decode cX1_add 57 = .ok (.lshl, 1) := by decide +kernel
theorem dX1_add_58 : decode cX1_add 58 = .ok (.iload_n 3, 1) := by decide +kernel
theorem dX1_add_59 : decode cX1_add 59 = .ok (.iconst 1, 1) := by decide +kernel
theorem dX1_add_60 : decode cX1_add 60 = .ok (.iadd, 1) := by decide +kernel
theorem dX1_add_61 : decode cX1_add 61 = .ok (.i2l, 1) := by decide +kernel
theorem dX1_add_62 : decode cX1_add 62 = .ok (.lor, 1) := by decide +kernel
theorem dX1_add_63 : decode cX1_add 63 = .ok (.lstore 7, 2) := by decide +kernel
theorem dX1_add_65 : decode cX1_add 65 = .ok (.lload 7, 2) := by decide +kernel
theorem dX1_add_67 : decode cX1_add 67 = .ok (.bipush 6, 2) := by decide +kernel
theorem dX1_add_69 : decode cX1_add 69 = .ok (.lshl, 1) := by decide +kernel
theorem dX1_add_70 : decode cX1_add 70 = .ok (.iload_n 2, 1) := by decide +kernel
theorem dX1_add_71 : decode cX1_add 71 = .ok (.iconst 1, 1) := by decide +kernel
theorem dX1_add_72 : decode cX1_add 72 = .ok (.iadd, 1) := by decide +kernel
theorem dX1_add_73 : decode cX1_add 73 = .ok (.i2l, 1) := by decide +kernel
theorem dX1_add_74 : decode cX1_add 74 = .ok (.lor, 1) := by decide +kernel
theorem dX1_add_75 : decode cX1_add 75 = .ok (.lstore 7, 2) := by decide +kernel
theorem dX1_add_77 : decode cX1_add 77 = .ok (.aload_n 0, 1) := by decide +kernel
theorem dX1_add_78 : decode cX1_add 78 = .ok (.getfield 21, 3) := by decide +kernel
theorem dX1_add_81 : decode cX1_add 81 = .ok (.aload_n 0, 1) := by decide +kernel
theorem dX1_add_82 : decode cX1_add 82 = .ok (.getfield 9, 3) := by decide +kernel
theorem dX1_add_85 : decode cX1_add 85 = .ok (.lload 7, 2) := by decide +kernel
theorem dX1_add_87 : decode cX1_add 87 = .ok (.lastore, 1) := by decide +kernel
theorem dX1_add_88 : decode cX1_add 88 = .ok (.aload_n 0, 1) := by decide +kernel
theorem dX1_add_89 : decode cX1_add 89 = .ok (.dup, 1) := by decide +kernel
theorem dX1_add_90 : decode cX1_add 90 = .ok (.getfield 9, 3) := by decide +kernel
theorem dX1_add_93 : decode cX1_add 93 = .ok (.iconst 1, 1) := by decide +kernel
theorem dX1_add_94 : decode cX1_add 94 = .ok (.iadd, 1) := by decide +kernel
theorem dX1_add_95 : decode cX1_add 95 = .ok (.putfield 9, 3) := by decide +kernel
theorem dX1_add_98 : decode cX1_add 98 = .ok (.return_, 1) := by decide +kernel
theorem dX1_addFrom_0 : decode cX1_addFrom 0 = .ok (.aload_n 0, 1) := by decide +kernel
theorem dX1_addFrom_1 : decode cX1_addFrom 1 = .ok (.invokevirtual 25, 3) := by decide +kernel
theorem dX1_addFrom_4 : decode cX1_addFrom 4 = .ok (.ifCond .ne 40, 3) := by decide +kernel
theorem dX1_addFrom_7 : decode cX1_addFrom 7 = .ok (.iload_n 2, 1) := by decide +kernel
theorem dX1_addFrom_8 : decode cX1_addFrom 8 = .ok (.ifCond .lt 36, 3) := by decide +kernel
theorem dX1_addFrom_11 : decode cX1_addFrom 11 = .ok (.iload_n 2, 1) := by decide +kernel
theorem dX1_addFrom_12 : decode cX1_addFrom 12 = .ok (.aload_n 1, 1) := by decide +kernel
theorem dX1_addFrom_13 : decode cX1_addFrom 13 = .ok (.getfield 9, 3) := by decide +kernel
theorem dX1_addFrom_16 : decode cX1_addFrom 16 = .ok (.if_icmp .ge 28, 3) := by decide +kernel
theorem dX1_addFrom_19 : decode cX1_addFrom 19 = .ok (.aload_n 0, 1) := by decide +kernel
theorem dX1_addFrom_20 : decode cX1_addFrom 20 = .ok (.getfield 21, 3) := by decide +kernel
theorem dX1_addFrom_23 : decode cX1_addFrom 23 = .ok (.aload_n 0, 1) := by decide +kernel
theorem dX1_addFrom_24 : decode cX1_addFrom 24 = .ok (.getfield 9, 3) := by decide +kernel
theorem dX1_addFrom_27 : decode cX1_addFrom 27 = .ok (.aload_n 1, 1) := by decide +kernel
theorem dX1_addFrom_28 : decode cX1_addFrom 28 = .ok (.getfield 21, 3) := by decide +kernel
theorem dX1_addFrom_31 : decode cX1_addFrom 31 = .ok (.iload_n 2, 1) := by decide +kernel
theorem dX1_addFrom_32 : decode cX1_addFrom 32 = .ok (.laload, 1) := by decide +kernel
theorem dX1_addFrom_33 : decode cX1_addFrom 33 = .ok (.lastore, 1) := by decide +kernel
theorem dX1_addFrom_34 : decode cX1_addFrom 34 = .ok (.aload_n 0, 1) := by decide +kernel
theorem dX1_addFrom_35 : decode cX1_addFrom 35 = .ok (.dup, 1) := by decide +kernel
theorem dX1_addFrom_36 : decode cX1_addFrom 36 = .ok (.getfield 9, 3) := by decide +kernel
theorem dX1_addFrom_39 : decode cX1_addFrom 39 = .ok (.iconst 1, 1) := by decide +kernel
theorem dX1_addFrom_40 : decode cX1_addFrom 40 = .ok (.iadd, 1) := by decide +kernel
theorem dX1_addFrom_41 : decode cX1_addFrom 41 = .ok (.putfield 9, 3) := by decide +kernel
theorem dX1_addFrom_44 : decode cX1_addFrom 44 = .ok (.return_, 1) := by decide +kernel
theorem dX1_tell_0 : decode cX1_tell 0 = .ok (.iload_n 1, 1) := by decide +kernel
theorem dX1_tell_1 : decode cX1_tell 1 = .ok (.ifCond .lt 20, 3) := by decide +kernel
theorem dX1_tell_4 : decode cX1_tell 4 = .ok (.iload_n 1, 1) := by decide +kernel
theorem dX1_tell_5 : decode cX1_tell 5 = .ok (.aload_n 0, 1) := by decide +kernel
theorem dX1_tell_6 : decode cX1_tell 6 = .ok (.getfield 9, 3) := by decide +kernel
theorem dX1_tell_9 : decode cX1_tell 9 = .ok (.if_icmp .ge 12, 3) := by decide +kernel
theorem dX1_tell_12 : decode cX1_tell 12 = .ok (.iload_n 2, 1) := by decide +kernel
theorem dX1_tell_13 : decode cX1_tell 13 = .ok (.ifCond .lt 8, 3) := by decide +kernel
theorem dX1_tell_16 : decode cX1_tell 16 = .ok (.iload_n 2, 1) := by decide +kernel
theorem dX1_tell_17 : decode cX1_tell 17 = .ok (.iconst 5, 1) := by decide +kernel
theorem dX1_tell_18 : decode cX1_tell 18 = .ok (.if_icmp .le 5, 3) := by decide +kernel
theorem dX1_tell_21 : decode cX1_tell 21 = .ok (.iconst (-1), 1) := by decide +kernel
theorem dX1_tell_22 : decode cX1_tell 22 = .ok (.ireturn, 1) := by decide +kernel
theorem dX1_tell_23 : decode cX1_tell 23 = .ok (.aload_n 0, 1) := by decide +kernel
theorem dX1_tell_24 : decode cX1_tell 24 = .ok (.getfield 21, 3) := by decide +kernel
theorem dX1_tell_27 : decode cX1_tell 27 = .ok (.iload_n 1, 1) := by decide +kernel
theorem dX1_tell_28 : decode cX1_tell 28 = .ok (.laload, 1) := by decide +kernel
theorem dX1_tell_29 : decode cX1_tell 29 = .ok (.bipush 6, 2) := by decide +kernel
theorem dX1_tell_31 : decode cX1_tell 31 = .ok (.iload_n 2, 1) := by decide +kernel
theorem dX1_tell_32 : decode cX1_tell 32 = .ok (.imul, 1) := by decide +kernel
theorem dX1_tell_33 : decode cX1_tell 33 = .ok (.lshr, 1) := by decide +kernel
theorem dX1_tell_34 : decode cX1_tell 34 = .ok (.ldc2_w 29, 3) := by decide +kernel
theorem dX1_tell_37 : decode cX1_tell 37 = .ok (.land, 1) := by decide +kernel
theorem dX1_tell_38 : decode cX1_tell 38 = .ok (.l2i, 1) := by decide +kernel
theorem dX1_tell_39 : decode cX1_tell 39 = .ok (.iconst 1, 1) := by decide +kernel
theorem dX1_tell_40 : decode cX1_tell 40 = .ok (.isub, 1) := by decide +kernel
theorem dX1_tell_41 : decode cX1_tell 41 = .ok (.ireturn, 1) := by decide +kernel
theorem dX1_isLate_0 : decode cX1_isLate 0 = .ok (.aload_n 0, 1) := by decide +kernel
theorem dX1_isLate_1 : decode cX1_isLate 1 = .ok (.iload_n 1, 1) := by decide +kernel
theorem dX1_isLate_2 : decode cX1_isLate 2 = .ok (.iconst 4, 1) := by decide +kernel
theorem dX1_isLate_3 : decode cX1_isLate 3 = .ok (.invokevirtual 31, 3) := by decide +kernel
theorem dX1_isLate_6 : decode cX1_isLate 6 = .ok (.iload_n 2, 1) := by decide +kernel
theorem dX1_isLate_7 : decode cX1_isLate 7 = .ok (.if_icmp .le 7, 3) := by decide +kernel
theorem dX1_isLate_10 : decode cX1_isLate 10 = .ok (.iconst 1, 1) := by decide +kernel
theorem dX1_isLate_11 : decode cX1_isLate 11 = .ok (.goto 4, 3) := by decide +kernel
theorem dX1_isLate_14 : decode cX1_isLate 14 = .ok (.iconst 0, 1) := by decide +kernel
theorem dX1_isLate_15 : decode cX1_isLate 15 = .ok (.ireturn, 1) := by decide +kernel
theorem dX1_countInTime_0 : decode cX1_countInTime 0 = .ok (.iconst 0, 1) := by decide +kernel
theorem dX1_countInTime_1 : decode cX1_countInTime 1 = .ok (.istore_n 2, 1) := by decide +kernel
theorem dX1_countInTime_2 : decode cX1_countInTime 2 = .ok (.iconst 0, 1) := by decide +kernel
theorem dX1_countInTime_3 : decode cX1_countInTime 3 = .ok (.istore_n 3, 1) := by decide +kernel
theorem dX1_countInTime_4 : decode cX1_countInTime 4 = .ok (.iload_n 3, 1) := by decide +kernel
theorem dX1_countInTime_5 : decode cX1_countInTime 5 = .ok (.aload_n 0, 1) := by decide +kernel
theorem dX1_countInTime_6 : decode cX1_countInTime 6 = .ok (.getfield 9, 3) := by decide +kernel
theorem dX1_countInTime_9 : decode cX1_countInTime 9 = .ok (.if_icmp .ge 21, 3) := by decide +kernel
theorem dX1_countInTime_12 : decode cX1_countInTime 12 = .ok (.aload_n 0, 1) := by decide +kernel
theorem dX1_countInTime_13 : decode cX1_countInTime 13 = .ok (.iload_n 3, 1) := by decide +kernel
theorem dX1_countInTime_14 : decode cX1_countInTime 14 = .ok (.iload_n 1, 1) := by decide +kernel
theorem dX1_countInTime_15 : decode cX1_countInTime 15 = .ok (.invokevirtual 34, 3) := by decide +kernel
theorem dX1_countInTime_18 : decode cX1_countInTime 18 = .ok (.ifCond .ne 6, 3) := by decide +kernel
theorem dX1_countInTime_21 : decode cX1_countInTime 21 = .ok (.iinc 2 1, 3) := by decide +kernel
theorem dX1_countInTime_24 : decode cX1_countInTime 24 = .ok (.iinc 3 1, 3) := by decide +kernel
theorem dX1_countInTime_27 : decode cX1_countInTime 27 = .ok (.goto (-23), 3) := by decide +kernel
theorem dX1_countInTime_30 : decode cX1_countInTime 30 = .ok (.iload_n 2, 1) := by decide +kernel
theorem dX1_countInTime_31 : decode cX1_countInTime 31 = .ok (.ireturn, 1) := by decide +kernel
theorem dX2_init_0 : decode cX2_init 0 = .ok (.aload_n 0, 1) := by decide +kernel
theorem dX2_init_1 : decode cX2_init 1 = .ok (.invokespecial 3, 3) := by decide +kernel
theorem dX2_init_4 : decode cX2_init 4 = .ok (.aload_n 0, 1) := by decide +kernel
theorem dX2_init_5 : decode cX2_init 5 = .ok (.iconst 0, 1) := by decide +kernel
theorem dX2_init_6 : decode cX2_init 6 = .ok (.putfield 9, 3) := by decide +kernel
theorem dX2_init_9 : decode cX2_init 9 = .ok (.aload_n 0, 1) := by decide +kernel
theorem dX2_init_10 : decode cX2_init 10 = .ok (.iconst 0, 1) := by decide +kernel
theorem dX2_init_11 : decode cX2_init 11 = .ok (.putfield 15, 3) := by decide +kernel
theorem dX2_init_14 : decode cX2_init 14 = .ok (.iconst 0, 1) := by decide +kernel
theorem dX2_init_15 : decode cX2_init 15 = .ok (.iload_n 1, 1) := by decide +kernel
theorem dX2_init_16 : decode cX2_init 16 = .ok (.invokestatic 18, 3) := by decide +kernel
theorem dX2_init_19 : decode cX2_init 19 = .ok (.istore_n 2, 1) := by decide +kernel
theorem dX2_init_20 : decode cX2_init 20 = .ok (.aload_n 0, 1) := by decide +kernel
theorem dX2_init_21 : decode cX2_init 21 = .ok (.iload_n 2, 1) := by decide +kernel
theorem dX2_init_22 : decode cX2_init 22 = .ok (.newarray .int, 2) := by decide +kernel
theorem dX2_init_24 : decode cX2_init 24 = .ok (.putfield 24, 3) := by decide +kernel
theorem dX2_init_27 : decode cX2_init 27 = .ok (.aload_n 0, 1) := by decide +kernel
theorem dX2_init_28 : decode cX2_init 28 = .ok (.iload_n 2, 1) := by decide +kernel
theorem dX2_init_29 : decode cX2_init 29 = .ok (.newarray .int, 2) := by decide +kernel
theorem dX2_init_31 : decode cX2_init 31 = .ok (.putfield 28, 3) := by decide +kernel
theorem dX2_init_34 : decode cX2_init 34 = .ok (.aload_n 0, 1) := by decide +kernel
theorem dX2_init_35 : decode cX2_init 35 = .ok (.iload_n 2, 1) := by decide +kernel
theorem dX2_init_36 : decode cX2_init 36 = .ok (.newarray .int, 2) := by decide +kernel
theorem dX2_init_38 : decode cX2_init 38 = .ok (.putfield 31, 3) := by decide +kernel
theorem dX2_init_41 : decode cX2_init 41 = .ok (.aload_n 0, 1) := by decide +kernel
theorem dX2_init_42 : decode cX2_init 42 = .ok (.iload_n 2, 1) := by decide +kernel
theorem dX2_init_43 : decode cX2_init 43 = .ok (.newarray .int, 2) := by decide +kernel
theorem dX2_init_45 : decode cX2_init 45 = .ok (.putfield 34, 3) := by decide +kernel
theorem dX2_init_48 : decode cX2_init 48 = .ok (.return_, 1) := by decide +kernel
theorem dX2_empty_0 : decode cX2_empty 0 = .ok (.aload_n 0, 1) := by decide +kernel
theorem dX2_empty_1 : decode cX2_empty 1 = .ok (.iconst 0, 1) := by decide +kernel
theorem dX2_empty_2 : decode cX2_empty 2 = .ok (.putfield 9, 3) := by decide +kernel
theorem dX2_empty_5 : decode cX2_empty 5 = .ok (.aload_n 0, 1) := by decide +kernel
theorem dX2_empty_6 : decode cX2_empty 6 = .ok (.iconst 0, 1) := by decide +kernel
theorem dX2_empty_7 : decode cX2_empty 7 = .ok (.putfield 15, 3) := by decide +kernel
theorem dX2_empty_10 : decode cX2_empty 10 = .ok (.return_, 1) := by decide +kernel
theorem dX2_add_0 : decode cX2_add 0 = .ok (.aload_n 0, 1) := by decide +kernel
theorem dX2_add_1 : decode cX2_add 1 = .ok (.getfield 9, 3) := by decide +kernel
theorem dX2_add_4 : decode cX2_add 4 = .ok (.aload_n 0, 1) := by decide +kernel
theorem dX2_add_5 : decode cX2_add 5 = .ok (.getfield 24, 3) := by decide +kernel
theorem dX2_add_8 : decode cX2_add 8 = .ok (.arraylength, 1) := by decide +kernel
theorem dX2_add_9 : decode cX2_add 9 = .ok (.if_icmp .lt 5, 3) := by decide +kernel
theorem dX2_add_12 : decode cX2_add 12 = .ok (.iconst (-1), 1) := by decide +kernel
theorem dX2_add_13 : decode cX2_add 13 = .ok (.ireturn, 1) := by decide +kernel
theorem dX2_add_14 : decode cX2_add 14 = .ok (.aload_n 0, 1) := by decide +kernel
theorem dX2_add_15 : decode cX2_add 15 = .ok (.getfield 24, 3) := by decide +kernel
theorem dX2_add_18 : decode cX2_add 18 = .ok (.aload_n 0, 1) := by decide +kernel
theorem dX2_add_19 : decode cX2_add 19 = .ok (.getfield 9, 3) := by decide +kernel
theorem dX2_add_22 : decode cX2_add 22 = .ok (.iload_n 1, 1) := by decide +kernel
theorem dX2_add_23 : decode cX2_add 23 = .ok (.iastore, 1) := by decide +kernel
theorem dX2_add_24 : decode cX2_add 24 = .ok (.aload_n 0, 1) := by decide +kernel
theorem dX2_add_25 : decode cX2_add 25 = .ok (.getfield 28, 3) := by decide +kernel
theorem dX2_add_28 : decode cX2_add 28 = .ok (.aload_n 0, 1) := by decide +kernel
theorem dX2_add_29 : decode cX2_add 29 = .ok (.getfield 9, 3) := by decide +kernel
theorem dX2_add_32 : decode cX2_add 32 = .ok (.iload_n 2, 1) := by decide +kernel
theorem dX2_add_33 : decode cX2_add 33 = .ok (.iastore, 1) := by decide +kernel
theorem dX2_add_34 : decode cX2_add 34 = .ok (.aload_n 0, 1) := by decide +kernel
theorem dX2_add_35 : decode cX2_add 35 = .ok (.getfield 31, 3) := by decide +kernel
theorem dX2_add_38 : decode cX2_add 38 = .ok (.aload_n 0, 1) := by decide +kernel
theorem dX2_add_39 : decode cX2_add 39 = .ok (.getfield 9, 3) := by decide +kernel
theorem dX2_add_42 : decode cX2_add 42 = .ok (.iload_n 3, 1) := by decide +kernel
theorem dX2_add_43 : decode cX2_add 43 = .ok (.iastore, 1) := by decide +kernel
theorem dX2_add_44 : decode cX2_add 44 = .ok (.aload_n 0, 1) := by decide +kernel
theorem dX2_add_45 : decode cX2_add 45 = .ok (.getfield 34, 3) := by decide +kernel
theorem dX2_add_48 : decode cX2_add 48 = .ok (.aload_n 0, 1) := by decide +kernel
theorem dX2_add_49 : decode cX2_add 49 = .ok (.getfield 9, 3) := by decide +kernel
theorem dX2_add_52 : decode cX2_add 52 = .ok (.iload_n 1, 1) := by decide +kernel
theorem dX2_add_53 : decode cX2_add 53 = .ok (.bipush 7, 2) := by decide +kernel
theorem dX2_add_55 : decode cX2_add 55 = .ok (.if_icmp .lt 12, 3) := by decide +kernel
theorem dX2_add_58 : decode cX2_add 58 = .ok (.iload_n 1, 1) := by decide +kernel
theorem dX2_add_59 : decode cX2_add 59 = .ok (.bipush 7, 2) := by decide +kernel
theorem dX2_add_61 : decode cX2_add 61 = .ok (.isub, 1) := by decide +kernel
theorem dX2_add_62 : decode cX2_add 62 = .ok (.iconst 1, 1) := by decide +kernel
theorem dX2_add_63 : decode cX2_add 63 = .ok (.iadd, 1) := by decide +kernel
theorem dX2_add_64 : decode cX2_add 64 = .ok (.goto 16, 3) := by decide +kernel
theorem dX2_add_67 : decode cX2_add 67 = .ok (.aload_n 0, 1) := by decide +kernel
theorem dX2_add_68 : decode cX2_add 68 = .ok (.iload_n 2, 1) := by decide +kernel
theorem dX2_add_69 : decode cX2_add 69 = .ok (.invokevirtual 37, 3) := by decide +kernel
theorem dX2_add_72 : decode cX2_add 72 = .ok (.aload_n 0, 1) := by decide +kernel
theorem dX2_add_73 : decode cX2_add 73 = .ok (.iload_n 3, 1) := by decide +kernel
theorem dX2_add_74 : decode cX2_add 74 = .ok (.invokevirtual 37, 3) := by decide +kernel
theorem dX2_add_77 : decode cX2_add 77 = .ok (.invokestatic 18, 3) := by decide +kernel
theorem dX2_add_80 : decode cX2_add 80 = .ok (.iastore, 1) := by decide +kernel
theorem dX2_add_81 : decode cX2_add 81 = .ok (.aload_n 0, 1) := by decide +kernel
theorem dX2_add_82 : decode cX2_add 82 = .ok (.dup, 1) := by decide +kernel
theorem dX2_add_83 : decode cX2_add 83 = .ok (.getfield 9, 3) := by decide +kernel
theorem dX2_add_86 : decode cX2_add 86 = .ok (.iconst 1, 1) := by decide +kernel
theorem dX2_add_87 : decode cX2_add 87 = .ok (.iadd, 1) := by decide +kernel
theorem dX2_add_88 : decode cX2_add 88 = .ok (.putfield 9, 3) := by decide +kernel
theorem dX2_add_91 : decode cX2_add 91 = .ok (.aload_n 0, 1) := by decide +kernel
theorem dX2_add_92 : decode cX2_add 92 = .ok (.getfield 9, 3) := by decide +kernel
theorem dX2_add_95 : decode cX2_add 95 = .ok (.iconst 1, 1) := by decide +kernel
theorem dX2_add_96 : decode cX2_add 96 = .ok (.isub, 1) := by decide +kernel
theorem dX2_add_97 : decode cX2_add 97 = .ok (.ireturn, 1) := by decide +kernel
theorem dX2_stageOf_0 : decode cX2_stageOf 0 = .ok (.iload_n 1, 1) := by decide +kernel
theorem dX2_stageOf_1 : decode cX2_stageOf 1 = .ok (.ifCond .lt 20, 3) := by decide +kernel
theorem dX2_stageOf_4 : decode cX2_stageOf 4 = .ok (.iload_n 1, 1) := by decide +kernel
theorem dX2_stageOf_5 : decode cX2_stageOf 5 = .ok (.aload_n 0, 1) := by decide +kernel
theorem dX2_stageOf_6 : decode cX2_stageOf 6 = .ok (.getfield 9, 3) := by decide +kernel
theorem dX2_stageOf_9 : decode cX2_stageOf 9 = .ok (.if_icmp .ge 12, 3) := by decide +kernel
theorem dX2_stageOf_12 : decode cX2_stageOf 12 = .ok (.aload_n 0, 1) := by decide +kernel
theorem dX2_stageOf_13 : decode cX2_stageOf 13 = .ok (.getfield 34, 3) := by decide +kernel
theorem dX2_stageOf_16 : decode cX2_stageOf 16 = .ok (.iload_n 1, 1) := by decide +kernel
theorem dX2_stageOf_17 : decode cX2_stageOf 17 = .ok (.iaload, 1) := by decide +kernel
theorem dX2_stageOf_18 : decode cX2_stageOf 18 = .ok (.goto 4, 3) := by decide +kernel
theorem dX2_stageOf_21 : decode cX2_stageOf 21 = .ok (.iconst 0, 1) := by decide +kernel
theorem dX2_stageOf_22 : decode cX2_stageOf 22 = .ok (.ireturn, 1) := by decide +kernel
theorem dX2_isLetter_0 : decode cX2_isLetter 0 = .ok (.iload_n 1, 1) := by decide +kernel
theorem dX2_isLetter_1 : decode cX2_isLetter 1 = .ok (.ifCond .lt 28, 3) := by decide +kernel
theorem dX2_isLetter_4 : decode cX2_isLetter 4 = .ok (.iload_n 1, 1) := by decide +kernel
theorem dX2_isLetter_5 : decode cX2_isLetter 5 = .ok (.aload_n 0, 1) := by decide +kernel
theorem dX2_isLetter_6 : decode cX2_isLetter 6 = .ok (.getfield 9, 3) := by decide +kernel
theorem dX2_isLetter_9 : decode cX2_isLetter 9 = .ok (.if_icmp .ge 20, 3) := by decide +kernel
theorem dX2_isLetter_12 : decode cX2_isLetter 12 = .ok (.aload_n 0, 1) := by decide +kernel
theorem dX2_isLetter_13 : decode cX2_isLetter 13 = .ok (.getfield 24, 3) := by decide +kernel
theorem dX2_isLetter_16 : decode cX2_isLetter 16 = .ok (.iload_n 1, 1) := by decide +kernel
theorem dX2_isLetter_17 : decode cX2_isLetter 17 = .ok (.iaload, 1) := by decide +kernel
theorem dX2_isLetter_18 : decode cX2_isLetter 18 = .ok (.bipush 7, 2) := by decide +kernel
theorem dX2_isLetter_20 : decode cX2_isLetter 20 = .ok (.iload_n 2, 1) := by decide +kernel
theorem dX2_isLetter_21 : decode cX2_isLetter 21 = .ok (.iadd, 1) := by decide +kernel
theorem dX2_isLetter_22 : decode cX2_isLetter 22 = .ok (.if_icmp .ne 7, 3) := by decide +kernel
theorem dX2_isLetter_25 : decode cX2_isLetter 25 = .ok (.iconst 1, 1) := by decide +kernel
theorem dX2_isLetter_26 : decode cX2_isLetter 26 = .ok (.goto 4, 3) := by decide +kernel
theorem dX2_isLetter_29 : decode cX2_isLetter 29 = .ok (.iconst 0, 1) := by decide +kernel
theorem dX2_isLetter_30 : decode cX2_isLetter 30 = .ok (.ireturn, 1) := by decide +kernel
theorem dX2_lettersIn_0 : decode cX2_lettersIn 0 = .ok (.iconst 0, 1) := by decide +kernel
theorem dX2_lettersIn_1 : decode cX2_lettersIn 1 = .ok (.istore_n 3, 1) := by decide +kernel
theorem dX2_lettersIn_2 : decode cX2_lettersIn 2 = .ok (.iload_n 1, 1) := by decide +kernel
theorem dX2_lettersIn_3 : decode cX2_lettersIn 3 = .ok (.istore 4, 2) := by decide +kernel
theorem dX2_lettersIn_5 : decode cX2_lettersIn 5 = .ok (.iload 4, 2) := by decide +kernel
theorem dX2_lettersIn_7 : decode cX2_lettersIn 7 = .ok (.iload_n 2, 1) := by decide +kernel
theorem dX2_lettersIn_8 : decode cX2_lettersIn 8 = .ok (.if_icmp .ge 45, 3) := by decide +kernel
theorem dX2_lettersIn_11 : decode cX2_lettersIn 11 = .ok (.iload 4, 2) := by decide +kernel
theorem dX2_lettersIn_13 : decode cX2_lettersIn 13 = .ok (.aload_n 0, 1) := by decide +kernel
theorem dX2_lettersIn_14 : decode cX2_lettersIn 14 = .ok (.getfield 9, 3) := by decide +kernel
theorem dX2_lettersIn_17 : decode cX2_lettersIn 17 = .ok (.if_icmp .ge 36, 3) := by decide +kernel
theorem dX2_lettersIn_20 : decode cX2_lettersIn 20 = .ok (.aload_n 0, 1) := by decide +kernel
theorem dX2_lettersIn_21 : decode cX2_lettersIn 21 = .ok (.getfield 24, 3) := by decide +kernel
theorem dX2_lettersIn_24 : decode cX2_lettersIn 24 = .ok (.iload 4, 2) := by decide +kernel
theorem dX2_lettersIn_26 : decode cX2_lettersIn 26 = .ok (.iaload, 1) := by decide +kernel
theorem dX2_lettersIn_27 : decode cX2_lettersIn 27 = .ok (.bipush 7, 2) := by decide +kernel
theorem dX2_lettersIn_29 : decode cX2_lettersIn 29 = .ok (.if_icmp .lt 18, 3) := by decide +kernel
theorem dX2_lettersIn_32 : decode cX2_lettersIn 32 = .ok (.iload_n 3, 1) := by decide +kernel
theorem dX2_lettersIn_33 : decode cX2_lettersIn 33 = .ok (.iconst 1, 1) := by decide +kernel
theorem dX2_lettersIn_34 : decode cX2_lettersIn 34 = .ok (.aload_n 0, 1) := by decide +kernel
theorem dX2_lettersIn_35 : decode cX2_lettersIn 35 = .ok (.getfield 24, 3) := by decide +kernel
theorem dX2_lettersIn_38 : decode cX2_lettersIn 38 = .ok (.iload 4, 2) := by decide +kernel
theorem dX2_lettersIn_40 : decode cX2_lettersIn 40 = .ok (.iaload, 1) := by decide +kernel
theorem dX2_lettersIn_41 : decode cX2_lettersIn 41 = .ok (.bipush 7, 2) := by decide +kernel
theorem dX2_lettersIn_43 : decode cX2_lettersIn 43 = .ok (.isub, 1) := by decide +kernel
theorem dX2_lettersIn_44 : decode cX2_lettersIn 44 = .ok (.ishl, 1) := by decide +kernel
theorem dX2_lettersIn_45 : decode cX2_lettersIn 45 = .ok (.ior, 1) := by decide +kernel
theorem dX2_lettersIn_46 : decode cX2_lettersIn 46 = .ok (.istore_n 3, 1) := by decide +kernel
theorem dX2_lettersIn_47 : decode cX2_lettersIn 47 = .ok (.iinc 4 1, 3) := by decide +kernel
theorem dX2_lettersIn_50 : decode cX2_lettersIn 50 = .ok (.goto (-45), 3) := by decide +kernel
theorem dX2_lettersIn_53 : decode cX2_lettersIn 53 = .ok (.iload_n 3, 1) := by decide +kernel
theorem dX2_lettersIn_54 : decode cX2_lettersIn 54 = .ok (.ireturn, 1) := by decide +kernel
theorem dX2_signsIn_0 : decode cX2_signsIn 0 = .ok (.iconst 0, 1) := by decide +kernel
theorem dX2_signsIn_1 : decode cX2_signsIn 1 = .ok (.istore_n 3, 1) := by decide +kernel
theorem dX2_signsIn_2 : decode cX2_signsIn 2 = .ok (.iload_n 1, 1) := by decide +kernel
theorem dX2_signsIn_3 : decode cX2_signsIn 3 = .ok (.istore 4, 2) := by decide +kernel
theorem dX2_signsIn_5 : decode cX2_signsIn 5 = .ok (.iload 4, 2) := by decide +kernel
theorem dX2_signsIn_7 : decode cX2_signsIn 7 = .ok (.iload_n 2, 1) := by decide +kernel
theorem dX2_signsIn_8 : decode cX2_signsIn 8 = .ok (.if_icmp .ge 33, 3) := by decide +kernel
theorem dX2_signsIn_11 : decode cX2_signsIn 11 = .ok (.iload 4, 2) := by decide +kernel
theorem dX2_signsIn_13 : decode cX2_signsIn 13 = .ok (.aload_n 0, 1) := by decide +kernel
theorem dX2_signsIn_14 : decode cX2_signsIn 14 = .ok (.getfield 9, 3) := by decide +kernel
theorem dX2_signsIn_17 : decode cX2_signsIn 17 = .ok (.if_icmp .ge 24, 3) := by decide +kernel
theorem dX2_signsIn_20 : decode cX2_signsIn 20 = .ok (.aload_n 0, 1) := by decide +kernel
theorem dX2_signsIn_21 : decode cX2_signsIn 21 = .ok (.getfield 24, 3) := by decide +kernel
theorem dX2_signsIn_24 : decode cX2_signsIn 24 = .ok (.iload 4, 2) := by decide +kernel
theorem dX2_signsIn_26 : decode cX2_signsIn 26 = .ok (.iaload, 1) := by decide +kernel
theorem dX2_signsIn_27 : decode cX2_signsIn 27 = .ok (.bipush 7, 2) := by decide +kernel
theorem dX2_signsIn_29 : decode cX2_signsIn 29 = .ok (.if_icmp .ge 6, 3) := by decide +kernel
theorem dX2_signsIn_32 : decode cX2_signsIn 32 = .ok (.iinc 3 1, 3) := by decide +kernel
theorem dX2_signsIn_35 : decode cX2_signsIn 35 = .ok (.iinc 4 1, 3) := by decide +kernel
theorem dX2_signsIn_38 : decode cX2_signsIn 38 = .ok (.goto (-33), 3) := by decide +kernel
theorem dX2_signsIn_41 : decode cX2_signsIn 41 = .ok (.iload_n 3, 1) := by decide +kernel
theorem dX2_signsIn_42 : decode cX2_signsIn 42 = .ok (.ireturn, 1) := by decide +kernel
theorem dX2_copied_0 : decode cX2_copied 0 = .ok (.new 10, 3) := by decide +kernel
theorem dX2_copied_3 : decode cX2_copied 3 = .ok (.dup, 1) := by decide +kernel
theorem dX2_copied_4 : decode cX2_copied 4 = .ok (.aload_n 0, 1) := by decide +kernel
theorem dX2_copied_5 : decode cX2_copied 5 = .ok (.getfield 9, 3) := by decide +kernel
theorem dX2_copied_8 : decode cX2_copied 8 = .ok (.invokespecial 41, 3) := by decide +kernel
theorem dX2_copied_11 : decode cX2_copied 11 = .ok (.astore_n 1, 1) := by decide +kernel
theorem dX2_copied_12 : decode cX2_copied 12 = .ok (.aload_n 0, 1) := by decide +kernel
theorem dX2_copied_13 : decode cX2_copied 13 = .ok (.getfield 24, 3) := by decide +kernel
theorem dX2_copied_16 : decode cX2_copied 16 = .ok (.iconst 0, 1) := by decide +kernel
theorem dX2_copied_17 : decode cX2_copied 17 = .ok (.aload_n 1, 1) := by decide +kernel
theorem dX2_copied_18 : decode cX2_copied 18 = .ok (.getfield 24, 3) := by decide +kernel
theorem dX2_copied_21 : decode cX2_copied 21 = .ok (.iconst 0, 1) := by decide +kernel
theorem dX2_copied_22 : decode cX2_copied 22 = .ok (.aload_n 0, 1) := by decide +kernel
theorem dX2_copied_23 : decode cX2_copied 23 = .ok (.getfield 9, 3) := by decide +kernel
theorem dX2_copied_26 : decode cX2_copied 26 = .ok (.invokestatic 44, 3) := by decide +kernel
theorem dX2_copied_29 : decode cX2_copied 29 = .ok (.aload_n 0, 1) := by decide +kernel
theorem dX2_copied_30 : decode cX2_copied 30 = .ok (.getfield 28, 3) := by decide +kernel
theorem dX2_copied_33 : decode cX2_copied 33 = .ok (.iconst 0, 1) := by decide +kernel
theorem dX2_copied_34 : decode cX2_copied 34 = .ok (.aload_n 1, 1) := by decide +kernel
theorem dX2_copied_35 : decode cX2_copied 35 = .ok (.getfield 28, 3) := by decide +kernel
theorem dX2_copied_38 : decode cX2_copied 38 = .ok (.iconst 0, 1) := by decide +kernel
theorem dX2_copied_39 : decode cX2_copied 39 = .ok (.aload_n 0, 1) := by decide +kernel
theorem dX2_copied_40 : decode cX2_copied 40 = .ok (.getfield 9, 3) := by decide +kernel
theorem dX2_copied_43 : decode cX2_copied 43 = .ok (.invokestatic 44, 3) := by decide +kernel
theorem dX2_copied_46 : decode cX2_copied 46 = .ok (.aload_n 0, 1) := by decide +kernel
theorem dX2_copied_47 : decode cX2_copied 47 = .ok (.getfield 31, 3) := by decide +kernel
theorem dX2_copied_50 : decode cX2_copied 50 = .ok (.iconst 0, 1) := by decide +kernel
theorem dX2_copied_51 : decode cX2_copied 51 = .ok (.aload_n 1, 1) := by decide +kernel
theorem dX2_copied_52 : decode cX2_copied 52 = .ok (.getfield 31, 3) := by decide +kernel
theorem dX2_copied_55 : decode cX2_copied 55 = .ok (.iconst 0, 1) := by decide +kernel
theorem dX2_copied_56 : decode cX2_copied 56 = .ok (.aload_n 0, 1) := by decide +kernel
theorem dX2_copied_57 : decode cX2_copied 57 = .ok (.getfield 9, 3) := by decide +kernel
theorem dX2_copied_60 : decode cX2_copied 60 = .ok (.invokestatic 44, 3) := by decide +kernel
theorem dX2_copied_63 : decode cX2_copied 63 = .ok (.aload_n 0, 1) := by decide +kernel
theorem dX2_copied_64 : decode cX2_copied 64 = .ok (.getfield 34, 3) := by decide +kernel
theorem dX2_copied_67 : decode cX2_copied 67 = .ok (.iconst 0, 1) := by decide +kernel
theorem dX2_copied_68 : decode cX2_copied 68 = .ok (.aload_n 1, 1) := by decide +kernel
theorem dX2_copied_69 : decode cX2_copied 69 = .ok (.getfield 34, 3) := by decide +kernel
theorem dX2_copied_72 : decode cX2_copied 72 = .ok (.iconst 0, 1) := by decide +kernel
theorem dX2_copied_73 : decode cX2_copied 73 = .ok (.aload_n 0, 1) := by decide +kernel
theorem dX2_copied_74 : decode cX2_copied 74 = .ok (.getfield 9, 3) := by decide +kernel
theorem dX2_copied_77 : decode cX2_copied 77 = .ok (.invokestatic 44, 3) := by decide +kernel
theorem dX2_copied_80 : decode cX2_copied 80 = .ok (.aload_n 1, 1) := by decide +kernel
theorem dX2_copied_81 : decode cX2_copied 81 = .ok (.aload_n 0, 1) := by decide +kernel
theorem dX2_copied_82 : decode cX2_copied 82 = .ok (.getfield 9, 3) := by decide +kernel
theorem dX2_copied_85 : decode cX2_copied 85 = .ok (.putfield 9, 3) := by decide +kernel
theorem dX2_copied_88 : decode cX2_copied 88 = .ok (.aload_n 1, 1) := by decide +kernel
theorem dX2_copied_89 : decode cX2_copied 89 = .ok (.aload_n 0, 1) := by decide +kernel
theorem dX2_copied_90 : decode cX2_copied 90 = .ok (.getfield 15, 3) := by decide +kernel
theorem dX2_copied_93 : decode cX2_copied 93 = .ok (.putfield 15, 3) := by decide +kernel
theorem dX2_copied_96 : decode cX2_copied 96 = .ok (.aload_n 1, 1) := by decide +kernel
theorem dX2_copied_97 : decode cX2_copied 97 = .ok (.areturn, 1) := by decide +kernel
theorem dX3_init_0 : decode cX3_init 0 = .ok (.aload_n 0, 1) := by decide +kernel
theorem dX3_init_1 : decode cX3_init 1 = .ok (.invokespecial 3, 3) := by decide +kernel
theorem dX3_init_4 : decode cX3_init 4 = .ok (.aload_n 0, 1) := by decide +kernel
theorem dX3_init_5 : decode cX3_init 5 = .ok (.new 9, 3) := by decide +kernel
theorem dX3_init_8 : decode cX3_init 8 = .ok (.dup, 1) := by decide +kernel
theorem dX3_init_9 : decode cX3_init 9 = .ok (.sipush 1200, 3) := by decide +kernel
theorem dX3_init_12 : decode cX3_init 12 = .ok (.invokespecial 13, 3) := by decide +kernel
theorem dX3_init_15 : decode cX3_init 15 = .ok (.putfield 16, 3) := by decide +kernel
theorem dX3_init_18 : decode cX3_init 18 = .ok (.aload_n 0, 1) := by decide +kernel
theorem dX3_init_19 : decode cX3_init 19 = .ok (.sipush 1200, 3) := by decide +kernel
theorem dX3_init_22 : decode cX3_init 22 = .ok (.newarray .int, 2) := by decide +kernel
theorem dX3_init_24 : decode cX3_init 24 = .ok (.putfield 20, 3) := by decide +kernel
theorem dX3_init_27 : decode cX3_init 27 = .ok (.aload_n 0, 1) := by decide +kernel
theorem dX3_init_28 : decode cX3_init 28 = .ok (.bipush 51, 2) := by decide +kernel
theorem dX3_init_30 : decode cX3_init 30 = .ok (.newarray .int, 2) := by decide +kernel
theorem dX3_init_32 : decode cX3_init 32 = .ok (.putfield 24, 3) := by decide +kernel
theorem dX3_init_35 : decode cX3_init 35 = .ok (.aload_n 0, 1) := by decide +kernel
theorem dX3_init_36 : decode cX3_init 36 = .ok (.iconst 5, 1) := by decide +kernel
theorem dX3_init_37 : decode cX3_init 37 = .ok (.newarray .int, 2) := by decide +kernel
theorem dX3_init_39 : decode cX3_init 39 = .ok (.putfield 27, 3) := by decide +kernel
theorem dX3_init_42 : decode cX3_init 42 = .ok (.aload_n 0, 1) := by decide +kernel
theorem dX3_init_43 : decode cX3_init 43 = .ok (.aload_n 1, 1) := by decide +kernel
theorem dX3_init_44 : decode cX3_init 44 = .ok (.putfield 30, 3) := by decide +kernel
theorem dX3_init_47 : decode cX3_init 47 = .ok (.aload_n 0, 1) := by decide +kernel
theorem dX3_init_48 : decode cX3_init 48 = .ok (.aload_n 2, 1) := by decide +kernel
theorem dX3_init_49 : decode cX3_init 49 = .ok (.putfield 34, 3) := by decide +kernel
theorem dX3_init_52 : decode cX3_init 52 = .ok (.aload_n 0, 1) := by decide +kernel
theorem dX3_init_53 : decode cX3_init 53 = .ok (.aload_n 3, 1) := by decide +kernel
theorem dX3_init_54 : decode cX3_init 54 = .ok (.putfield 38, 3) := by decide +kernel
theorem dX3_init_57 : decode cX3_init 57 = .ok (.aload_n 0, 1) := by decide +kernel
theorem dX3_init_58 : decode cX3_init 58 = .ok (.aload 4, 2) := by decide +kernel
theorem dX3_init_60 : decode cX3_init 60 = .ok (.putfield 42, 3) := by decide +kernel
theorem dX3_init_63 : decode cX3_init 63 = .ok (.return_, 1) := by decide +kernel
theorem dX3_run_0 : decode cX3_run 0 = .ok (.aload_n 0, 1) := by decide +kernel
theorem dX3_run_1 : decode cX3_run 1 = .ok (.getfield 27, 3) := by decide +kernel
theorem dX3_run_4 : decode cX3_run 4 = .ok (.iconst 0, 1) := by decide +kernel
theorem dX3_run_5 : decode cX3_run 5 = .ok (.invokestatic 46, 3) := by decide +kernel
theorem dX3_run_8 : decode cX3_run 8 = .ok (.aload_n 0, 1) := by decide +kernel
theorem dX3_run_9 : decode cX3_run 9 = .ok (.iload_n 2, 1) := by decide +kernel
theorem dX3_run_10 : decode cX3_run 10 = .ok (.invokevirtual 52, 3) := by decide +kernel
theorem dX3_run_13 : decode cX3_run 13 = .ok (.aload_n 0, 1) := by decide +kernel
theorem dX3_run_14 : decode cX3_run 14 = .ok (.iload_n 1, 1) := by decide +kernel
theorem dX3_run_15 : decode cX3_run 15 = .ok (.invokevirtual 55, 3) := by decide +kernel
theorem dX3_run_18 : decode cX3_run 18 = .ok (.iconst 0, 1) := by decide +kernel
theorem dX3_run_19 : decode cX3_run 19 = .ok (.istore_n 3, 1) := by decide +kernel
theorem dX3_run_20 : decode cX3_run 20 = .ok (.iconst 0, 1) := by decide +kernel
theorem dX3_run_21 : decode cX3_run 21 = .ok (.istore 4, 2) := by decide +kernel
theorem dX3_run_23 : decode cX3_run 23 = .ok (.iload 4, 2) := by decide +kernel
theorem dX3_run_25 : decode cX3_run 25 = .ok (.aload_n 0, 1) := by decide +kernel
theorem dX3_run_26 : decode cX3_run 26 = .ok (.getfield 16, 3) := by decide +kernel
theorem dX3_run_29 : decode cX3_run 29 = .ok (.getfield 58, 3) := by decide +kernel
theorem dX3_run_32 : decode cX3_run 32 = .ok (.if_icmp .ge 26, 3) := by decide +kernel
theorem dX3_run_35 : decode cX3_run 35 = .ok (.aload_n 0, 1) := by decide +kernel
theorem dX3_run_36 : decode cX3_run 36 = .ok (.aload_n 0, 1) := by decide +kernel
theorem dX3_run_37 : decode cX3_run 37 = .ok (.getfield 20, 3) := by decide +kernel
theorem dX3_run_40 : decode cX3_run 40 = .ok (.iload 4, 2) := by decide +kernel
theorem dX3_run_42 : decode cX3_run 42 = .ok (.iaload, 1) := by decide +kernel
theorem dX3_run_43 : decode cX3_run 43 = .ok (.invokevirtual 62, 3) := by decide +kernel
theorem dX3_run_46 : decode cX3_run 46 = .ok (.ifCond .eq 6, 3) := by decide +kernel
theorem dX3_run_49 : decode cX3_run 49 = .ok (.iinc 3 1, 3) := by decide +kernel
theorem dX3_run_52 : decode cX3_run 52 = .ok (.iinc 4 1, 3) := by decide +kernel
theorem dX3_run_55 : decode cX3_run 55 = .ok (.goto (-32), 3) := by decide +kernel
theorem dX3_run_58 : decode cX3_run 58 = .ok (.aload_n 0, 1) := by decide +kernel
theorem dX3_run_59 : decode cX3_run 59 = .ok (.getfield 38, 3) := by decide +kernel
theorem dX3_run_62 : decode cX3_run 62 = .ok (.invokevirtual 66, 3) := by decide +kernel
theorem dX3_run_65 : decode cX3_run 65 = .ok (.iload_n 3, 1) := by decide +kernel
theorem dX3_run_66 : decode cX3_run 66 = .ok (.ireturn, 1) := by decide +kernel
theorem dX3_collect_0 : decode cX3_collect 0 = .ok (.aload_n 0, 1) := by decide +kernel
theorem dX3_collect_1 : decode cX3_collect 1 = .ok (.getfield 16, 3) := by decide +kernel
theorem dX3_collect_4 : decode cX3_collect 4 = .ok (.iconst 0, 1) := by decide +kernel
theorem dX3_collect_5 : decode cX3_collect 5 = .ok (.putfield 58, 3) := by decide +kernel
theorem dX3_collect_8 : decode cX3_collect 8 = .ok (.iconst 0, 1) := by decide +kernel
theorem dX3_collect_9 : decode cX3_collect 9 = .ok (.istore_n 2, 1) := by decide +kernel
theorem dX3_collect_10 : decode cX3_collect 10 = .ok (.iload_n 2, 1) := by decide +kernel
theorem dX3_collect_11 : decode cX3_collect 11 = .ok (.aload_n 0, 1) := by decide +kernel
theorem dX3_collect_12 : decode cX3_collect 12 = .ok (.getfield 30, 3) := by decide +kernel
theorem dX3_collect_15 : decode cX3_collect 15 = .ok (.getfield 71, 3) := by decide +kernel
theorem dX3_collect_18 : decode cX3_collect 18 = .ok (.if_icmp .ge 69, 3) := by decide +kernel
theorem dX3_collect_21 : decode cX3_collect 21 = .ok (.aload_n 0, 1) := by decide +kernel
theorem dX3_collect_22 : decode cX3_collect 22 = .ok (.getfield 38, 3) := by decide +kernel
theorem dX3_collect_25 : decode cX3_collect 25 = .ok (.iload_n 2, 1) := by decide +kernel
theorem dX3_collect_26 : decode cX3_collect 26 = .ok (.invokevirtual 76, 3) := by decide +kernel
theorem dX3_collect_29 : decode cX3_collect 29 = .ok (.astore_n 3, 1) := by decide +kernel
theorem dX3_collect_30 : decode cX3_collect 30 = .ok (.iconst 0, 1) := by decide +kernel
theorem dX3_collect_31 : decode cX3_collect 31 = .ok (.istore 4, 2) := by decide +kernel
theorem dX3_collect_33 : decode cX3_collect 33 = .ok (.iload 4, 2) := by decide +kernel
theorem dX3_collect_35 : decode cX3_collect 35 = .ok (.aload_n 3, 1) := by decide +kernel
theorem dX3_collect_36 : decode cX3_collect 36 = .ok (.getfield 58, 3) := by decide +kernel
theorem dX3_collect_39 : decode cX3_collect 39 = .ok (.if_icmp .ge 42, 3) := by decide +kernel
theorem dX3_collect_42 : decode cX3_collect 42 = .ok (.aload_n 3, 1) := by decide +kernel
theorem dX3_collect_43 : decode cX3_collect 43 = .ok (.iload 4, 2) := by decide +kernel
theorem dX3_collect_45 : decode cX3_collect 45 = .ok (.iload_n 1, 1) := by decide +kernel
theorem dX3_collect_46 : decode cX3_collect 46 = .ok (.invokevirtual 80, 3) := by decide +kernel
theorem dX3_collect_49 : decode cX3_collect 49 = .ok (.ifCond .eq 16, 3) := by decide +kernel
theorem dX3_collect_52 : decode cX3_collect 52 = .ok (.aload_n 0, 1) := by decide +kernel
theorem dX3_collect_53 : decode cX3_collect 53 = .ok (.getfield 27, 3) := by decide +kernel
theorem dX3_collect_56 : decode cX3_collect 56 = .ok (.iconst 1, 1) := by decide +kernel
theorem dX3_collect_57 : decode cX3_collect 57 = .ok (.dup2, 1) := by decide +kernel
theorem dX3_collect_58 : decode cX3_collect 58 = .ok (.iaload, 1) := by decide +kernel
theorem dX3_collect_59 : decode cX3_collect 59 = .ok (.iconst 1, 1) := by decide +kernel
theorem dX3_collect_60 : decode cX3_collect 60 = .ok (.iadd, 1) := by decide +kernel
theorem dX3_collect_61 : decode cX3_collect 61 = .ok (.iastore, 1) := by decide +kernel
theorem dX3_collect_62 : decode cX3_collect 62 = .ok (.goto 13, 3) := by decide +kernel
theorem dX3_collect_65 : decode cX3_collect 65 = .ok (.aload_n 0, 1) := by decide +kernel
theorem dX3_collect_66 : decode cX3_collect 66 = .ok (.getfield 16, 3) := by decide +kernel
theorem dX3_collect_69 : decode cX3_collect 69 = .ok (.aload_n 3, 1) := by decide +kernel
theorem dX3_collect_70 : decode cX3_collect 70 = .ok (.iload 4, 2) := by decide +kernel
theorem dX3_collect_72 : decode cX3_collect 72 = .ok (.invokevirtual 84, 3) := by decide +kernel
theorem dX3_collect_75 : decode cX3_collect 75 = .ok (.iinc 4 1, 3) := by decide +kernel
theorem dX3_collect_78 : decode cX3_collect 78 = .ok (.goto (-45), 3) := by decide +kernel
theorem dX3_collect_81 : decode cX3_collect 81 = .ok (.iinc 2 1, 3) := by decide +kernel
theorem dX3_collect_84 : decode cX3_collect 84 = .ok (.goto (-74), 3) := by decide +kernel
theorem dX3_collect_87 : decode cX3_collect 87 = .ok (.return_, 1) := by decide +kernel
theorem dX3_arrange_0 : decode cX3_arrange 0 = .ok (.aload_n 0, 1) := by decide +kernel
theorem dX3_arrange_1 : decode cX3_arrange 1 = .ok (.getfield 24, 3) := by decide +kernel
theorem dX3_arrange_4 : decode cX3_arrange 4 = .ok (.iconst 0, 1) := by decide +kernel
theorem dX3_arrange_5 : decode cX3_arrange 5 = .ok (.invokestatic 46, 3) := by decide +kernel
theorem dX3_arrange_8 : decode cX3_arrange 8 = .ok (.iconst 0, 1) := by decide +kernel
theorem dX3_arrange_9 : decode cX3_arrange 9 = .ok (.istore_n 2, 1) := by decide +kernel
theorem dX3_arrange_10 : decode cX3_arrange 10 = .ok (.iload_n 2, 1) := by decide +kernel
theorem dX3_arrange_11 : decode cX3_arrange 11 = .ok (.aload_n 0, 1) := by decide +kernel
theorem dX3_arrange_12 : decode cX3_arrange 12 = .ok (.getfield 16, 3) := by decide +kernel
theorem dX3_arrange_15 : decode cX3_arrange 15 = .ok (.getfield 58, 3) := by decide +kernel
theorem dX3_arrange_18 : decode cX3_arrange 18 = .ok (.if_icmp .ge 26, 3) := by decide +kernel
theorem dX3_arrange_21 : decode cX3_arrange 21 = .ok (.aload_n 0, 1) := by decide +kernel
theorem dX3_arrange_22 : decode cX3_arrange 22 = .ok (.getfield 24, 3) := by decide +kernel
theorem dX3_arrange_25 : decode cX3_arrange 25 = .ok (.aload_n 0, 1) := by decide +kernel
theorem dX3_arrange_26 : decode cX3_arrange 26 = .ok (.iload_n 1, 1) := by decide +kernel
theorem dX3_arrange_27 : decode cX3_arrange 27 = .ok (.iload_n 2, 1) := by decide +kernel
theorem dX3_arrange_28 : decode cX3_arrange 28 = .ok (.invokevirtual 88, 3) := by decide +kernel
theorem dX3_arrange_31 : decode cX3_arrange 31 = .ok (.iconst 1, 1) := by decide +kernel
theorem dX3_arrange_32 : decode cX3_arrange 32 = .ok (.iadd, 1) := by decide +kernel
theorem dX3_arrange_33 : decode cX3_arrange 33 = .ok (.dup2, 1) := by decide +kernel
theorem dX3_arrange_34 : decode cX3_arrange 34 = .ok (.iaload, 1) := by decide +kernel
theorem dX3_arrange_35 : decode cX3_arrange 35 = .ok (.iconst 1, 1) := by decide +kernel
theorem dX3_arrange_36 : decode cX3_arrange 36 = .ok (.iadd, 1) := by decide +kernel
theorem dX3_arrange_37 : decode cX3_arrange 37 = .ok (.iastore, 1) := by decide +kernel
theorem dX3_arrange_38 : decode cX3_arrange 38 = .ok (.iinc 2 1, 3) := by decide +kernel
theorem dX3_arrange_41 : decode cX3_arrange 41 = .ok (.goto (-31), 3) := by decide +kernel
theorem dX3_arrange_44 : decode cX3_arrange 44 = .ok (.iconst 1, 1) := by decide +kernel
theorem dX3_arrange_45 : decode cX3_arrange 45 = .ok (.istore_n 2, 1) := by decide +kernel
theorem dX3_arrange_46 : decode cX3_arrange 46 = .ok (.iload_n 2, 1) := by decide +kernel
theorem dX3_arrange_47 : decode cX3_arrange 47 = .ok (.bipush 50, 2) := by decide +kernel
theorem dX3_arrange_49 : decode cX3_arrange 49 = .ok (.if_icmp .gt 26, 3) := by decide +kernel
theorem dX3_arrange_52 : decode cX3_arrange 52 = .ok (.aload_n 0, 1) := by decide +kernel
theorem dX3_arrange_53 : decode cX3_arrange 53 = .ok (.getfield 24, 3) := by decide +kernel
theorem dX3_arrange_56 : decode cX3_arrange 56 = .ok (.iload_n 2, 1) := by decide +kernel
theorem dX3_arrange_57 : decode cX3_arrange 57 = .ok (.dup2, 1) := by decide +kernel
theorem dX3_arrange_58 : decode cX3_arrange 58 = .ok (.iaload, 1) := by decide +kernel
theorem dX3_arrange_59 : decode cX3_arrange 59 = .ok (.aload_n 0, 1) := by decide +kernel
theorem dX3_arrange_60 : decode cX3_arrange 60 = .ok (.getfield 24, 3) := by decide +kernel
theorem dX3_arrange_63 : decode cX3_arrange 63 = .ok (.iload_n 2, 1) := by decide +kernel
theorem dX3_arrange_64 : decode cX3_arrange 64 = .ok (.iconst 1, 1) := by decide +kernel
theorem dX3_arrange_65 : decode cX3_arrange 65 = .ok (.isub, 1) := by decide +kernel
theorem dX3_arrange_66 : decode cX3_arrange 66 = .ok (.iaload, 1) := by decide +kernel
theorem dX3_arrange_67 : decode cX3_arrange 67 = .ok (.iadd, 1) := by decide +kernel
theorem dX3_arrange_68 : decode cX3_arrange 68 = .ok (.iastore, 1) := by decide +kernel
theorem dX3_arrange_69 : decode cX3_arrange 69 = .ok (.iinc 2 1, 3) := by decide +kernel
theorem dX3_arrange_72 : decode cX3_arrange 72 = .ok (.goto (-26), 3) := by decide +kernel
theorem dX3_arrange_75 : decode cX3_arrange 75 = .ok (.iconst 0, 1) := by decide +kernel
theorem dX3_arrange_76 : decode cX3_arrange 76 = .ok (.istore_n 2, 1) := by decide +kernel
theorem dX3_arrange_77 : decode cX3_arrange 77 = .ok (.iload_n 2, 1) := by decide +kernel
theorem dX3_arrange_78 : decode cX3_arrange 78 = .ok (.aload_n 0, 1) := by decide +kernel
theorem dX3_arrange_79 : decode cX3_arrange 79 = .ok (.getfield 16, 3) := by decide +kernel
theorem dX3_arrange_82 : decode cX3_arrange 82 = .ok (.getfield 58, 3) := by decide +kernel
theorem dX3_arrange_85 : decode cX3_arrange 85 = .ok (.if_icmp .ge 55, 3) := by decide +kernel
theorem dX3_arrange_88 : decode cX3_arrange 88 = .ok (.aload_n 0, 1) := by decide +kernel
theorem dX3_arrange_89 : decode cX3_arrange 89 = .ok (.iload_n 1, 1) := by decide +kernel
theorem dX3_arrange_90 : decode cX3_arrange 90 = .ok (.iload_n 2, 1) := by decide +kernel
theorem dX3_arrange_91 : decode cX3_arrange 91 = .ok (.invokevirtual 88, 3) := by decide +kernel
theorem dX3_arrange_94 : decode cX3_arrange 94 = .ok (.istore_n 3, 1) := by decide +kernel
theorem dX3_arrange_95 : decode cX3_arrange 95 = .ok (.aload_n 0, 1) := by decide +kernel
theorem dX3_arrange_96 : decode cX3_arrange 96 = .ok (.getfield 24, 3) := by decide +kernel
theorem dX3_arrange_99 : decode cX3_arrange 99 = .ok (.iload_n 3, 1) := by decide +kernel
theorem dX3_arrange_100 : decode cX3_arrange 100 = .ok (.iaload, 1) := by decide +kernel
theorem dX3_arrange_101 : decode cX3_arrange 101 = .ok (.istore 4, 2) := by decide +kernel
theorem dX3_arrange_103 : decode cX3_arrange 103 = .ok (.aload_n 0, 1) := by decide +kernel
theorem dX3_arrange_104 : decode cX3_arrange 104 = .ok (.getfield 24, 3) := by decide +kernel
theorem dX3_arrange_107 : decode cX3_arrange 107 = .ok (.iload_n 3, 1) := by decide +kernel
theorem dX3_arrange_108 : decode cX3_arrange 108 = .ok (.dup2, 1) := by decide +kernel
theorem dX3_arrange_109 : decode cX3_arrange 109 = .ok (.iaload, 1) := by decide +kernel
theorem dX3_arrange_110 : decode cX3_arrange 110 = .ok (.iconst 1, 1) := by decide +kernel
theorem dX3_arrange_111 : decode cX3_arrange 111 = .ok (.iadd, 1) := by decide +kernel
theorem dX3_arrange_112 : decode cX3_arrange 112 = .ok (.iastore, 1) := by decide +kernel
theorem dX3_arrange_113 : decode cX3_arrange 113 = .ok (.iload 4, 2) := by decide +kernel
theorem dX3_arrange_115 : decode cX3_arrange 115 = .ok (.ifCond .lt 19, 3) := by decide +kernel
theorem dX3_arrange_118 : decode cX3_arrange 118 = .ok (.iload 4, 2) := by decide +kernel
theorem dX3_arrange_120 : decode cX3_arrange 120 = .ok (.sipush 1200, 3) := by decide +kernel
theorem dX3_arrange_123 : decode cX3_arrange 123 = .ok (.if_icmp .ge 11, 3) := by decide +kernel
theorem dX3_arrange_126 : decode cX3_arrange 126 = .ok (.aload_n 0, 1) := by decide +kernel
theorem dX3_arrange_127 : decode cX3_arrange 127 = .ok (.getfield 20, 3) := by decide +kernel
theorem dX3_arrange_130 : decode cX3_arrange 130 = .ok (.iload 4, 2) := by decide +kernel
theorem dX3_arrange_132 : decode cX3_arrange 132 = .ok (.iload_n 2, 1) := by decide +kernel
theorem dX3_arrange_133 : decode cX3_arrange 133 = .ok (.iastore, 1) := by decide +kernel
theorem dX3_arrange_134 : decode cX3_arrange 134 = .ok (.iinc 2 1, 3) := by decide +kernel
theorem dX3_arrange_137 : decode cX3_arrange 137 = .ok (.goto (-60), 3) := by decide +kernel
theorem dX3_arrange_140 : decode cX3_arrange 140 = .ok (.return_, 1) := by decide +kernel
theorem dX3_keyOf_0 : decode cX3_keyOf 0 = .ok (.iload_n 1, 1) := by decide +kernel
theorem dX3_keyOf_1 : decode cX3_keyOf 1 = .ok (.tableswitch 68 1 3 #[27, 40, 55], 27) := by decide +kernel
theorem dX3_keyOf_28 : decode cX3_keyOf 28 = .ok (.aload_n 0, 1) := by decide +kernel
theorem dX3_keyOf_29 : decode cX3_keyOf 29 = .ok (.getfield 16, 3) := by decide +kernel
theorem dX3_keyOf_32 : decode cX3_keyOf 32 = .ok (.iload_n 2, 1) := by decide +kernel
theorem dX3_keyOf_33 : decode cX3_keyOf 33 = .ok (.iconst 4, 1) := by decide +kernel
theorem dX3_keyOf_34 : decode cX3_keyOf 34 = .ok (.invokevirtual 92, 3) := by decide +kernel
theorem dX3_keyOf_37 : decode cX3_keyOf 37 = .ok (.istore_n 3, 1) := by decide +kernel
theorem dX3_keyOf_38 : decode cX3_keyOf 38 = .ok (.goto 41, 3) := by decide +kernel
theorem dX3_keyOf_41 : decode cX3_keyOf 41 = .ok (.iconst 5, 1) := by decide +kernel
theorem dX3_keyOf_42 : decode cX3_keyOf 42 = .ok (.aload_n 0, 1) := by decide +kernel
theorem dX3_keyOf_43 : decode cX3_keyOf 43 = .ok (.getfield 16, 3) := by decide +kernel
theorem dX3_keyOf_46 : decode cX3_keyOf 46 = .ok (.iload_n 2, 1) := by decide +kernel
theorem dX3_keyOf_47 : decode cX3_keyOf 47 = .ok (.iconst 5, 1) := by decide +kernel
theorem dX3_keyOf_48 : decode cX3_keyOf 48 = .ok (.invokevirtual 92, 3) := by decide +kernel
theorem dX3_keyOf_51 : decode cX3_keyOf 51 = .ok (.isub, 1) := by decide +kernel
theorem dX3_keyOf_52 : decode cX3_keyOf 52 = .ok (.istore_n 3, 1) := by decide +kernel
theorem dX3_keyOf_53 : decode cX3_keyOf 53 = .ok (.goto 26, 3) := by decide +kernel
theorem dX3_keyOf_56 : decode cX3_keyOf 56 = .ok (.aload_n 0, 1) := by decide +kernel
theorem dX3_keyOf_57 : decode cX3_keyOf 57 = .ok (.getfield 16, 3) := by decide +kernel
theorem dX3_keyOf_60 : decode cX3_keyOf 60 = .ok (.iload_n 2, 1) := by decide +kernel
theorem dX3_keyOf_61 : decode cX3_keyOf 61 = .ok (.iconst 3, 1) := by decide +kernel
theorem dX3_keyOf_62 : decode cX3_keyOf 62 = .ok (.invokevirtual 92, 3) := by decide +kernel
theorem dX3_keyOf_65 : decode cX3_keyOf 65 = .ok (.istore_n 3, 1) := by decide +kernel
theorem dX3_keyOf_66 : decode cX3_keyOf 66 = .ok (.goto 13, 3) := by decide +kernel
theorem dX3_keyOf_69 : decode cX3_keyOf 69 = .ok (.aload_n 0, 1) := by decide +kernel
theorem dX3_keyOf_70 : decode cX3_keyOf 70 = .ok (.getfield 16, 3) := by decide +kernel
theorem dX3_keyOf_73 : decode cX3_keyOf 73 = .ok (.iload_n 2, 1) := by decide +kernel
theorem dX3_keyOf_74 : decode cX3_keyOf 74 = .ok (.iconst 5, 1) := by decide +kernel
theorem dX3_keyOf_75 : decode cX3_keyOf 75 = .ok (.invokevirtual 92, 3) := by decide +kernel
theorem dX3_keyOf_78 : decode cX3_keyOf 78 = .ok (.istore_n 3, 1) := by decide +kernel
theorem dX3_keyOf_79 : decode cX3_keyOf 79 = .ok (.iconst 0, 1) := by decide +kernel
theorem dX3_keyOf_80 : decode cX3_keyOf 80 = .ok (.bipush 49, 2) := by decide +kernel
theorem dX3_keyOf_82 : decode cX3_keyOf 82 = .ok (.iload_n 3, 1) := by decide +kernel
theorem dX3_keyOf_83 : decode cX3_keyOf 83 = .ok (.invokestatic 95, 3) := by decide +kernel
theorem dX3_keyOf_86 : decode cX3_keyOf 86 = .ok (.invokestatic 100, 3) := by decide +kernel
theorem dX3_keyOf_89 : decode cX3_keyOf 89 = .ok (.ireturn, 1) := by decide +kernel
theorem dX3_doOne_0 : decode cX3_doOne 0 = .ok (.aload_n 0, 1) := by decide +kernel
theorem dX3_doOne_1 : decode cX3_doOne 1 = .ok (.getfield 30, 3) := by decide +kernel
theorem dX3_doOne_4 : decode cX3_doOne 4 = .ok (.getfield 103, 3) := by decide +kernel
theorem dX3_doOne_7 : decode cX3_doOne 7 = .ok (.astore_n 2, 1) := by decide +kernel
theorem dX3_doOne_8 : decode cX3_doOne 8 = .ok (.aload_n 2, 1) := by decide +kernel
theorem dX3_doOne_9 : decode cX3_doOne 9 = .ok (.getfield 107, 3) := by decide +kernel
theorem dX3_doOne_12 : decode cX3_doOne 12 = .ok (.istore_n 3, 1) := by decide +kernel
theorem dX3_doOne_13 : decode cX3_doOne 13 = .ok (.aload_n 2, 1) := by decide +kernel
theorem dX3_doOne_14 : decode cX3_doOne 14 = .ok (.iload_n 3, 1) := by decide +kernel
theorem dX3_doOne_15 : decode cX3_doOne 15 = .ok (.invokevirtual 110, 3) := by decide +kernel
theorem dX3_doOne_18 : decode cX3_doOne 18 = .ok (.istore 4, 2) := by decide +kernel
theorem dX3_doOne_20 : decode cX3_doOne 20 = .ok (.aload_n 0, 1) := by decide +kernel
theorem dX3_doOne_21 : decode cX3_doOne 21 = .ok (.aload_n 0, 1) := by decide +kernel
theorem dX3_doOne_22 : decode cX3_doOne 22 = .ok (.getfield 16, 3) := by decide +kernel
theorem dX3_doOne_25 : decode cX3_doOne 25 = .ok (.iload_n 1, 1) := by decide +kernel
theorem dX3_doOne_26 : decode cX3_doOne 26 = .ok (.invokevirtual 114, 3) := by decide +kernel
theorem dX3_doOne_29 : decode cX3_doOne 29 = .ok (.istore 5, 2) := by decide +kernel
theorem dX3_doOne_31 : decode cX3_doOne 31 = .ok (.iload 5, 2) := by decide +kernel
theorem dX3_doOne_33 : decode cX3_doOne 33 = .ok (.iconst (-1), 1) := by decide +kernel
theorem dX3_doOne_34 : decode cX3_doOne 34 = .ok (.if_icmp .ne 15, 3) := by decide +kernel
theorem dX3_doOne_37 : decode cX3_doOne 37 = .ok (.aload_n 0, 1) := by decide +kernel
theorem dX3_doOne_38 : decode cX3_doOne 38 = .ok (.getfield 27, 3) := by decide +kernel
theorem dX3_doOne_41 : decode cX3_doOne 41 = .ok (.iconst 2, 1) := by decide +kernel
theorem dX3_doOne_42 : decode cX3_doOne 42 = .ok (.dup2, 1) := by decide +kernel
theorem dX3_doOne_43 : decode cX3_doOne 43 = .ok (.iaload, 1) := by decide +kernel
theorem dX3_doOne_44 : decode cX3_doOne 44 = .ok (.iconst 1, 1) := by decide +kernel
theorem dX3_doOne_45 : decode cX3_doOne 45 = .ok (.iadd, 1) := by decide +kernel
theorem dX3_doOne_46 : decode cX3_doOne 46 = .ok (.iastore, 1) := by decide +kernel
theorem dX3_doOne_47 : decode cX3_doOne 47 = .ok (.iconst 0, 1) := by decide +kernel
theorem dX3_doOne_48 : decode cX3_doOne 48 = .ok (.ireturn, 1) := by decide +kernel
theorem dX3_doOne_49 : decode cX3_doOne 49 = .ok (.aload_n 0, 1) := by decide +kernel
theorem dX3_doOne_50 : decode cX3_doOne 50 = .ok (.getfield 27, 3) := by decide +kernel
theorem dX3_doOne_53 : decode cX3_doOne 53 = .ok (.iconst 0, 1) := by decide +kernel
theorem dX3_doOne_54 : decode cX3_doOne 54 = .ok (.dup2, 1) := by decide +kernel
theorem dX3_doOne_55 : decode cX3_doOne 55 = .ok (.iaload, 1) := by decide +kernel
theorem dX3_doOne_56 : decode cX3_doOne 56 = .ok (.iconst 1, 1) := by decide +kernel
theorem dX3_doOne_57 : decode cX3_doOne 57 = .ok (.iadd, 1) := by decide +kernel
theorem dX3_doOne_58 : decode cX3_doOne 58 = .ok (.iastore, 1) := by decide +kernel
theorem dX3_doOne_59 : decode cX3_doOne 59 = .ok (.aload_n 2, 1) := by decide +kernel
theorem dX3_doOne_60 : decode cX3_doOne 60 = .ok (.getfield 107, 3) := by decide +kernel
theorem dX3_doOne_63 : decode cX3_doOne 63 = .ok (.iload_n 3, 1) := by decide +kernel
theorem dX3_doOne_64 : decode cX3_doOne 64 = .ok (.isub, 1) := by decide +kernel
theorem dX3_doOne_65 : decode cX3_doOne 65 = .ok (.istore 6, 2) := by decide +kernel
theorem dX3_doOne_67 : decode cX3_doOne 67 = .ok (.aload_n 2, 1) := by decide +kernel
theorem dX3_doOne_68 : decode cX3_doOne 68 = .ok (.iload 5, 2) := by decide +kernel
theorem dX3_doOne_70 : decode cX3_doOne 70 = .ok (.aload_n 0, 1) := by decide +kernel
theorem dX3_doOne_71 : decode cX3_doOne 71 = .ok (.getfield 16, 3) := by decide +kernel
theorem dX3_doOne_74 : decode cX3_doOne 74 = .ok (.iload_n 1, 1) := by decide +kernel
theorem dX3_doOne_75 : decode cX3_doOne 75 = .ok (.iconst 3, 1) := by decide +kernel
theorem dX3_doOne_76 : decode cX3_doOne 76 = .ok (.invokevirtual 92, 3) := by decide +kernel
theorem dX3_doOne_79 : decode cX3_doOne 79 = .ok (.invokevirtual 118, 3) := by decide +kernel
theorem dX3_doOne_82 : decode cX3_doOne 82 = .ok (.istore 7, 2) := by decide +kernel
theorem dX3_doOne_84 : decode cX3_doOne 84 = .ok (.iload 6, 2) := by decide +kernel
theorem dX3_doOne_86 : decode cX3_doOne 86 = .ok (.ifCond .ne 10, 3) := by decide +kernel
theorem dX3_doOne_89 : decode cX3_doOne 89 = .ok (.iload 7, 2) := by decide +kernel
theorem dX3_doOne_91 : decode cX3_doOne 91 = .ok (.ifCond .ne 5, 3) := by decide +kernel
theorem dX3_doOne_94 : decode cX3_doOne 94 = .ok (.iconst 0, 1) := by decide +kernel
theorem dX3_doOne_95 : decode cX3_doOne 95 = .ok (.ireturn, 1) := by decide +kernel
theorem dX3_doOne_96 : decode cX3_doOne 96 = .ok (.aload_n 0, 1) := by decide +kernel
theorem dX3_doOne_97 : decode cX3_doOne 97 = .ok (.getfield 34, 3) := by decide +kernel
theorem dX3_doOne_100 : decode cX3_doOne 100 = .ok (.aload_n 2, 1) := by decide +kernel
theorem dX3_doOne_101 : decode cX3_doOne 101 = .ok (.invokevirtual 121, 3) := by decide +kernel
theorem dX3_doOne_104 : decode cX3_doOne 104 = .ok (.aload_n 0, 1) := by decide +kernel
theorem dX3_doOne_105 : decode cX3_doOne 105 = .ok (.getfield 27, 3) := by decide +kernel
theorem dX3_doOne_108 : decode cX3_doOne 108 = .ok (.iconst 3, 1) := by decide +kernel
theorem dX3_doOne_109 : decode cX3_doOne 109 = .ok (.dup2, 1) := by decide +kernel
theorem dX3_doOne_110 : decode cX3_doOne 110 = .ok (.iaload, 1) := by decide +kernel
theorem dX3_doOne_111 : decode cX3_doOne 111 = .ok (.iload 6, 2) := by decide +kernel
theorem dX3_doOne_113 : decode cX3_doOne 113 = .ok (.iadd, 1) := by decide +kernel
theorem dX3_doOne_114 : decode cX3_doOne 114 = .ok (.iastore, 1) := by decide +kernel
theorem dX3_doOne_115 : decode cX3_doOne 115 = .ok (.aload_n 2, 1) := by decide +kernel
theorem dX3_doOne_116 : decode cX3_doOne 116 = .ok (.iload_n 3, 1) := by decide +kernel
theorem dX3_doOne_117 : decode cX3_doOne 117 = .ok (.invokevirtual 110, 3) := by decide +kernel
theorem dX3_doOne_120 : decode cX3_doOne 120 = .ok (.iload 4, 2) := by decide +kernel
theorem dX3_doOne_122 : decode cX3_doOne 122 = .ok (.if_icmp .ge 7, 3) := by decide +kernel
theorem dX3_doOne_125 : decode cX3_doOne 125 = .ok (.iconst 1, 1) := by decide +kernel
theorem dX3_doOne_126 : decode cX3_doOne 126 = .ok (.goto 4, 3) := by decide +kernel
theorem dX3_doOne_129 : decode cX3_doOne 129 = .ok (.iconst 0, 1) := by decide +kernel
theorem dX3_doOne_130 : decode cX3_doOne 130 = .ok (.istore 8, 2) := by decide +kernel
theorem dX3_doOne_132 : decode cX3_doOne 132 = .ok (.iload 8, 2) := by decide +kernel
theorem dX3_doOne_134 : decode cX3_doOne 134 = .ok (.ifCond .eq 13, 3) := by decide +kernel
theorem dX3_doOne_137 : decode cX3_doOne 137 = .ok (.aload_n 0, 1) := by decide +kernel
theorem dX3_doOne_138 : decode cX3_doOne 138 = .ok (.getfield 27, 3) := by decide +kernel
theorem dX3_doOne_141 : decode cX3_doOne 141 = .ok (.iconst 4, 1) := by decide +kernel
theorem dX3_doOne_142 : decode cX3_doOne 142 = .ok (.dup2, 1) := by decide +kernel
theorem dX3_doOne_143 : decode cX3_doOne 143 = .ok (.iaload, 1) := by decide +kernel
theorem dX3_doOne_144 : decode cX3_doOne 144 = .ok (.iconst 1, 1) := by decide +kernel
theorem dX3_doOne_145 : decode cX3_doOne 145 = .ok (.iadd, 1) := by decide +kernel
theorem dX3_doOne_146 : decode cX3_doOne 146 = .ok (.iastore, 1) := by decide +kernel
theorem dX3_doOne_147 : decode cX3_doOne 147 = .ok (.iload 6, 2) := by decide +kernel
theorem dX3_doOne_149 : decode cX3_doOne 149 = .ok (.ifCond .gt 8, 3) := by decide +kernel
theorem dX3_doOne_152 : decode cX3_doOne 152 = .ok (.iload 8, 2) := by decide +kernel
theorem dX3_doOne_154 : decode cX3_doOne 154 = .ok (.ifCond .eq 7, 3) := by decide +kernel
theorem dX3_doOne_157 : decode cX3_doOne 157 = .ok (.iconst 1, 1) := by decide +kernel
theorem dX3_doOne_158 : decode cX3_doOne 158 = .ok (.goto 4, 3) := by decide +kernel
theorem dX3_doOne_161 : decode cX3_doOne 161 = .ok (.iconst 0, 1) := by decide +kernel
theorem dX3_doOne_162 : decode cX3_doOne 162 = .ok (.ireturn, 1) := by decide +kernel
theorem dX3_buildRight_0 : decode cX3_buildRight 0 = .ok (.iconst 0, 1) := by decide +kernel
theorem dX3_buildRight_1 : decode cX3_buildRight 1 = .ok (.istore_n 3, 1) := by decide +kernel
theorem dX3_buildRight_2 : decode cX3_buildRight 2 = .ok (.iload_n 3, 1) := by decide +kernel
theorem dX3_buildRight_3 : decode cX3_buildRight 3 = .ok (.iconst 3, 1) := by decide +kernel
theorem dX3_buildRight_4 : decode cX3_buildRight 4 = .ok (.if_icmp .ge 34, 3) := by decide +kernel
theorem dX3_buildRight_7 : decode cX3_buildRight 7 = .ok (.aload_n 0, 1) := by decide +kernel
theorem dX3_buildRight_8 : decode cX3_buildRight 8 = .ok (.getfield 42, 3) := by decide +kernel
theorem dX3_buildRight_11 : decode cX3_buildRight 11 = .ok (.getfield 127, 3) := by decide +kernel
theorem dX3_buildRight_14 : decode cX3_buildRight 14 = .ok (.iload_n 3, 1) := by decide +kernel
theorem dX3_buildRight_15 : decode cX3_buildRight 15 = .ok (.aload_n 0, 1) := by decide +kernel
theorem dX3_buildRight_16 : decode cX3_buildRight 16 = .ok (.getfield 30, 3) := by decide +kernel
theorem dX3_buildRight_19 : decode cX3_buildRight 19 = .ok (.getfield 103, 3) := by decide +kernel
theorem dX3_buildRight_22 : decode cX3_buildRight 22 = .ok (.aload_n 1, 1) := by decide +kernel
theorem dX3_buildRight_23 : decode cX3_buildRight 23 = .ok (.iload_n 2, 1) := by decide +kernel
theorem dX3_buildRight_24 : decode cX3_buildRight 24 = .ok (.iload_n 3, 1) := by decide +kernel
theorem dX3_buildRight_25 : decode cX3_buildRight 25 = .ok (.invokevirtual 92, 3) := by decide +kernel
theorem dX3_buildRight_28 : decode cX3_buildRight 28 = .ok (.invokevirtual 132, 3) := by decide +kernel
theorem dX3_buildRight_31 : decode cX3_buildRight 31 = .ok (.iastore, 1) := by decide +kernel
theorem dX3_buildRight_32 : decode cX3_buildRight 32 = .ok (.iinc 3 1, 3) := by decide +kernel
theorem dX3_buildRight_35 : decode cX3_buildRight 35 = .ok (.goto (-33), 3) := by decide +kernel
theorem dX3_buildRight_38 : decode cX3_buildRight 38 = .ok (.aload_n 0, 1) := by decide +kernel
theorem dX3_buildRight_39 : decode cX3_buildRight 39 = .ok (.getfield 30, 3) := by decide +kernel
theorem dX3_buildRight_42 : decode cX3_buildRight 42 = .ok (.aload_n 1, 1) := by decide +kernel
theorem dX3_buildRight_43 : decode cX3_buildRight 43 = .ok (.iload_n 2, 1) := by decide +kernel
theorem dX3_buildRight_44 : decode cX3_buildRight 44 = .ok (.iconst 5, 1) := by decide +kernel
theorem dX3_buildRight_45 : decode cX3_buildRight 45 = .ok (.invokevirtual 92, 3) := by decide +kernel
theorem dX3_buildRight_48 : decode cX3_buildRight 48 = .ok (.invokevirtual 135, 3) := by decide +kernel
theorem dX3_buildRight_51 : decode cX3_buildRight 51 = .ok (.astore_n 3, 1) := by decide +kernel
theorem dX3_buildRight_52 : decode cX3_buildRight 52 = .ok (.aload_n 0, 1) := by decide +kernel
theorem dX3_buildRight_53 : decode cX3_buildRight 53 = .ok (.getfield 42, 3) := by decide +kernel
theorem dX3_buildRight_56 : decode cX3_buildRight 56 = .ok (.aload_n 3, 1) := by decide +kernel
theorem dX3_buildRight_57 : decode cX3_buildRight 57 = .ok (.aload_n 3, 1) := by decide +kernel
theorem dX3_buildRight_58 : decode cX3_buildRight 58 = .ok (.getfield 139, 3) := by decide +kernel
theorem dX3_buildRight_61 : decode cX3_buildRight 61 = .ok (.aload_n 3, 1) := by decide +kernel
theorem dX3_buildRight_62 : decode cX3_buildRight 62 = .ok (.getfield 144, 3) := by decide +kernel
theorem dX3_buildRight_65 : decode cX3_buildRight 65 = .ok (.aload_n 1, 1) := by decide +kernel
theorem dX3_buildRight_66 : decode cX3_buildRight 66 = .ok (.iload_n 2, 1) := by decide +kernel
theorem dX3_buildRight_67 : decode cX3_buildRight 67 = .ok (.iconst 4, 1) := by decide +kernel
theorem dX3_buildRight_68 : decode cX3_buildRight 68 = .ok (.invokevirtual 92, 3) := by decide +kernel
theorem dX3_buildRight_71 : decode cX3_buildRight 71 = .ok (.invokevirtual 145, 3) := by decide +kernel
theorem dX3_buildRight_74 : decode cX3_buildRight 74 = .ok (.ireturn, 1) := by decide +kernel
theorem dX3_wouldChange_0 : decode cX3_wouldChange 0 = .ok (.iconst 0, 1) := by decide +kernel
theorem dX3_wouldChange_1 : decode cX3_wouldChange 1 = .ok (.istore_n 2, 1) := by decide +kernel
theorem dX3_wouldChange_2 : decode cX3_wouldChange 2 = .ok (.iload_n 2, 1) := by decide +kernel
theorem dX3_wouldChange_3 : decode cX3_wouldChange 3 = .ok (.aload_n 0, 1) := by decide +kernel
theorem dX3_wouldChange_4 : decode cX3_wouldChange 4 = .ok (.getfield 30, 3) := by decide +kernel
theorem dX3_wouldChange_7 : decode cX3_wouldChange 7 = .ok (.getfield 71, 3) := by decide +kernel
theorem dX3_wouldChange_10 : decode cX3_wouldChange 10 = .ok (.if_icmp .ge 58, 3) := by decide +kernel
theorem dX3_wouldChange_13 : decode cX3_wouldChange 13 = .ok (.aload_n 0, 1) := by decide +kernel
theorem dX3_wouldChange_14 : decode cX3_wouldChange 14 = .ok (.getfield 38, 3) := by decide +kernel
theorem dX3_wouldChange_17 : decode cX3_wouldChange 17 = .ok (.iload_n 2, 1) := by decide +kernel
theorem dX3_wouldChange_18 : decode cX3_wouldChange 18 = .ok (.invokevirtual 76, 3) := by decide +kernel
theorem dX3_wouldChange_21 : decode cX3_wouldChange 21 = .ok (.astore_n 3, 1) := by decide +kernel
theorem dX3_wouldChange_22 : decode cX3_wouldChange 22 = .ok (.iconst 0, 1) := by decide +kernel
theorem dX3_wouldChange_23 : decode cX3_wouldChange 23 = .ok (.istore 4, 2) := by decide +kernel
theorem dX3_wouldChange_25 : decode cX3_wouldChange 25 = .ok (.iload 4, 2) := by decide +kernel
theorem dX3_wouldChange_27 : decode cX3_wouldChange 27 = .ok (.aload_n 3, 1) := by decide +kernel
theorem dX3_wouldChange_28 : decode cX3_wouldChange 28 = .ok (.getfield 58, 3) := by decide +kernel
theorem dX3_wouldChange_31 : decode cX3_wouldChange 31 = .ok (.if_icmp .ge 31, 3) := by decide +kernel
theorem dX3_wouldChange_34 : decode cX3_wouldChange 34 = .ok (.aload_n 3, 1) := by decide +kernel
theorem dX3_wouldChange_35 : decode cX3_wouldChange 35 = .ok (.iload 4, 2) := by decide +kernel
theorem dX3_wouldChange_37 : decode cX3_wouldChange 37 = .ok (.iload_n 1, 1) := by decide +kernel
theorem dX3_wouldChange_38 : decode cX3_wouldChange 38 = .ok (.invokevirtual 80, 3) := by decide +kernel
theorem dX3_wouldChange_41 : decode cX3_wouldChange 41 = .ok (.ifCond .ne 15, 3) := by decide +kernel
theorem dX3_wouldChange_44 : decode cX3_wouldChange 44 = .ok (.aload_n 0, 1) := by decide +kernel
theorem dX3_wouldChange_45 : decode cX3_wouldChange 45 = .ok (.aload_n 3, 1) := by decide +kernel
theorem dX3_wouldChange_46 : decode cX3_wouldChange 46 = .ok (.iload 4, 2) := by decide +kernel
theorem dX3_wouldChange_48 : decode cX3_wouldChange 48 = .ok (.invokevirtual 149, 3) := by decide +kernel
theorem dX3_wouldChange_51 : decode cX3_wouldChange 51 = .ok (.ifCond .eq 5, 3) := by decide +kernel
theorem dX3_wouldChange_54 : decode cX3_wouldChange 54 = .ok (.iconst 1, 1) := by decide +kernel
theorem dX3_wouldChange_55 : decode cX3_wouldChange 55 = .ok (.ireturn, 1) := by decide +kernel
theorem dX3_wouldChange_56 : decode cX3_wouldChange 56 = .ok (.iinc 4 1, 3) := by decide +kernel
theorem dX3_wouldChange_59 : decode cX3_wouldChange 59 = .ok (.goto (-34), 3) := by decide +kernel
theorem dX3_wouldChange_62 : decode cX3_wouldChange 62 = .ok (.iinc 2 1, 3) := by decide +kernel
theorem dX3_wouldChange_65 : decode cX3_wouldChange 65 = .ok (.goto (-63), 3) := by decide +kernel
theorem dX3_wouldChange_68 : decode cX3_wouldChange 68 = .ok (.iconst 0, 1) := by decide +kernel
theorem dX3_wouldChange_69 : decode cX3_wouldChange 69 = .ok (.ireturn, 1) := by decide +kernel
theorem dX3_wouldChangeBy_0 : decode cX3_wouldChangeBy 0 = .ok (.aload_n 0, 1) := by decide +kernel
theorem dX3_wouldChangeBy_1 : decode cX3_wouldChangeBy 1 = .ok (.getfield 30, 3) := by decide +kernel
theorem dX3_wouldChangeBy_4 : decode cX3_wouldChangeBy 4 = .ok (.getfield 103, 3) := by decide +kernel
theorem dX3_wouldChangeBy_7 : decode cX3_wouldChangeBy 7 = .ok (.getfield 107, 3) := by decide +kernel
theorem dX3_wouldChangeBy_10 : decode cX3_wouldChangeBy 10 = .ok (.istore_n 3, 1) := by decide +kernel
theorem dX3_wouldChangeBy_11 : decode cX3_wouldChangeBy 11 = .ok (.aload_n 0, 1) := by decide +kernel
theorem dX3_wouldChangeBy_12 : decode cX3_wouldChangeBy 12 = .ok (.aload_n 1, 1) := by decide +kernel
theorem dX3_wouldChangeBy_13 : decode cX3_wouldChangeBy 13 = .ok (.iload_n 2, 1) := by decide +kernel
theorem dX3_wouldChangeBy_14 : decode cX3_wouldChangeBy 14 = .ok (.invokevirtual 114, 3) := by decide +kernel
theorem dX3_wouldChangeBy_17 : decode cX3_wouldChangeBy 17 = .ok (.istore 4, 2) := by decide +kernel
theorem dX3_wouldChangeBy_19 : decode cX3_wouldChangeBy 19 = .ok (.aload_n 0, 1) := by decide +kernel
theorem dX3_wouldChangeBy_20 : decode cX3_wouldChangeBy 20 = .ok (.getfield 30, 3) := by decide +kernel
theorem dX3_wouldChangeBy_23 : decode cX3_wouldChangeBy 23 = .ok (.getfield 103, 3) := by decide +kernel
theorem dX3_wouldChangeBy_26 : decode cX3_wouldChangeBy 26 = .ok (.getfield 107, 3) := by decide +kernel
theorem dX3_wouldChangeBy_29 : decode cX3_wouldChangeBy 29 = .ok (.iload_n 3, 1) := by decide +kernel
theorem dX3_wouldChangeBy_30 : decode cX3_wouldChangeBy 30 = .ok (.if_icmp .le 7, 3) := by decide +kernel
theorem dX3_wouldChangeBy_33 : decode cX3_wouldChangeBy 33 = .ok (.iconst 1, 1) := by decide +kernel
theorem dX3_wouldChangeBy_34 : decode cX3_wouldChangeBy 34 = .ok (.goto 4, 3) := by decide +kernel
theorem dX3_wouldChangeBy_37 : decode cX3_wouldChangeBy 37 = .ok (.iconst 0, 1) := by decide +kernel
theorem dX3_wouldChangeBy_38 : decode cX3_wouldChangeBy 38 = .ok (.istore 5, 2) := by decide +kernel
theorem dX3_wouldChangeBy_40 : decode cX3_wouldChangeBy 40 = .ok (.aload_n 0, 1) := by decide +kernel
theorem dX3_wouldChangeBy_41 : decode cX3_wouldChangeBy 41 = .ok (.getfield 30, 3) := by decide +kernel
theorem dX3_wouldChangeBy_44 : decode cX3_wouldChangeBy 44 = .ok (.getfield 103, 3) := by decide +kernel
theorem dX3_wouldChangeBy_47 : decode cX3_wouldChangeBy 47 = .ok (.iload_n 3, 1) := by decide +kernel
theorem dX3_wouldChangeBy_48 : decode cX3_wouldChangeBy 48 = .ok (.putfield 107, 3) := by decide +kernel
theorem dX3_wouldChangeBy_51 : decode cX3_wouldChangeBy 51 = .ok (.iload 4, 2) := by decide +kernel
theorem dX3_wouldChangeBy_53 : decode cX3_wouldChangeBy 53 = .ok (.iconst (-1), 1) := by decide +kernel
theorem dX3_wouldChangeBy_54 : decode cX3_wouldChangeBy 54 = .ok (.if_icmp .eq 33, 3) := by decide +kernel
theorem dX3_wouldChangeBy_57 : decode cX3_wouldChangeBy 57 = .ok (.iload 5, 2) := by decide +kernel
theorem dX3_wouldChangeBy_59 : decode cX3_wouldChangeBy 59 = .ok (.ifCond .ne 24, 3) := by decide +kernel
theorem dX3_wouldChangeBy_62 : decode cX3_wouldChangeBy 62 = .ok (.aload_n 0, 1) := by decide +kernel
theorem dX3_wouldChangeBy_63 : decode cX3_wouldChangeBy 63 = .ok (.getfield 30, 3) := by decide +kernel
theorem dX3_wouldChangeBy_66 : decode cX3_wouldChangeBy 66 = .ok (.getfield 103, 3) := by decide +kernel
theorem dX3_wouldChangeBy_69 : decode cX3_wouldChangeBy 69 = .ok (.iload 4, 2) := by decide +kernel
theorem dX3_wouldChangeBy_71 : decode cX3_wouldChangeBy 71 = .ok (.invokevirtual 132, 3) := by decide +kernel
theorem dX3_wouldChangeBy_74 : decode cX3_wouldChangeBy 74 = .ok (.aload_n 1, 1) := by decide +kernel
theorem dX3_wouldChangeBy_75 : decode cX3_wouldChangeBy 75 = .ok (.iload_n 2, 1) := by decide +kernel
theorem dX3_wouldChangeBy_76 : decode cX3_wouldChangeBy 76 = .ok (.iconst 3, 1) := by decide +kernel
theorem dX3_wouldChangeBy_77 : decode cX3_wouldChangeBy 77 = .ok (.invokevirtual 92, 3) := by decide +kernel
theorem dX3_wouldChangeBy_80 : decode cX3_wouldChangeBy 80 = .ok (.if_icmp .eq 7, 3) := by decide +kernel
theorem dX3_wouldChangeBy_83 : decode cX3_wouldChangeBy 83 = .ok (.iconst 1, 1) := by decide +kernel
theorem dX3_wouldChangeBy_84 : decode cX3_wouldChangeBy 84 = .ok (.goto 4, 3) := by decide +kernel
theorem dX3_wouldChangeBy_87 : decode cX3_wouldChangeBy 87 = .ok (.iconst 0, 1) := by decide +kernel
theorem dX3_wouldChangeBy_88 : decode cX3_wouldChangeBy 88 = .ok (.ireturn, 1) := by decide +kernel
theorem dX4_init_0 : decode cX4_init 0 = .ok (.aload_n 0, 1) := by decide +kernel
theorem dX4_init_1 : decode cX4_init 1 = .ok (.invokespecial 3, 3) := by decide +kernel
theorem dX4_init_4 : decode cX4_init 4 = .ok (.aload_n 0, 1) := by decide +kernel
theorem dX4_init_5 : decode cX4_init 5 = .ok (.new 9, 3) := by decide +kernel
theorem dX4_init_8 : decode cX4_init 8 = .ok (.dup, 1) := by decide +kernel
theorem dX4_init_9 : decode cX4_init 9 = .ok (.sipush 200, 3) := by decide +kernel
theorem dX4_init_12 : decode cX4_init 12 = .ok (.invokespecial 11, 3) := by decide +kernel
theorem dX4_init_15 : decode cX4_init 15 = .ok (.putfield 14, 3) := by decide +kernel
theorem dX4_init_18 : decode cX4_init 18 = .ok (.aload_n 0, 1) := by decide +kernel
theorem dX4_init_19 : decode cX4_init 19 = .ok (.iconst (-1), 1) := by decide +kernel
theorem dX4_init_20 : decode cX4_init 20 = .ok (.putfield 20, 3) := by decide +kernel
theorem dX4_init_23 : decode cX4_init 23 = .ok (.aload_n 0, 1) := by decide +kernel
theorem dX4_init_24 : decode cX4_init 24 = .ok (.bipush 50, 2) := by decide +kernel
theorem dX4_init_26 : decode cX4_init 26 = .ok (.newarray .int, 2) := by decide +kernel
theorem dX4_init_28 : decode cX4_init 28 = .ok (.putfield 24, 3) := by decide +kernel
theorem dX4_init_31 : decode cX4_init 31 = .ok (.aload_n 0, 1) := by decide +kernel
theorem dX4_init_32 : decode cX4_init 32 = .ok (.bipush 120, 2) := by decide +kernel
theorem dX4_init_34 : decode cX4_init 34 = .ok (.newarray .int, 2) := by decide +kernel
theorem dX4_init_36 : decode cX4_init 36 = .ok (.putfield 28, 3) := by decide +kernel
theorem dX4_init_39 : decode cX4_init 39 = .ok (.aload_n 0, 1) := by decide +kernel
theorem dX4_init_40 : decode cX4_init 40 = .ok (.iconst 3, 1) := by decide +kernel
theorem dX4_init_41 : decode cX4_init 41 = .ok (.newarray .int, 2) := by decide +kernel
theorem dX4_init_43 : decode cX4_init 43 = .ok (.putfield 31, 3) := by decide +kernel
theorem dX4_init_46 : decode cX4_init 46 = .ok (.aload_n 0, 1) := by decide +kernel
theorem dX4_init_47 : decode cX4_init 47 = .ok (.aload_n 1, 1) := by decide +kernel
theorem dX4_init_48 : decode cX4_init 48 = .ok (.putfield 34, 3) := by decide +kernel
theorem dX4_init_51 : decode cX4_init 51 = .ok (.aload_n 0, 1) := by decide +kernel
theorem dX4_init_52 : decode cX4_init 52 = .ok (.aload_n 2, 1) := by decide +kernel
theorem dX4_init_53 : decode cX4_init 53 = .ok (.putfield 38, 3) := by decide +kernel
theorem dX4_init_56 : decode cX4_init 56 = .ok (.return_, 1) := by decide +kernel
theorem dX4_forget_0 : decode cX4_forget 0 = .ok (.aload_n 0, 1) := by decide +kernel
theorem dX4_forget_1 : decode cX4_forget 1 = .ok (.iconst (-1), 1) := by decide +kernel
theorem dX4_forget_2 : decode cX4_forget 2 = .ok (.putfield 20, 3) := by decide +kernel
theorem dX4_forget_5 : decode cX4_forget 5 = .ok (.return_, 1) := by decide +kernel
theorem dX4_look_0 : decode cX4_look 0 = .ok (.iload_n 1, 1) := by decide +kernel
theorem dX4_look_1 : decode cX4_look 1 = .ok (.aload_n 0, 1) := by decide +kernel
theorem dX4_look_2 : decode cX4_look 2 = .ok (.getfield 20, 3) := by decide +kernel
theorem dX4_look_5 : decode cX4_look 5 = .ok (.if_icmp .ne 8, 3) := by decide +kernel
theorem dX4_look_8 : decode cX4_look 8 = .ok (.aload_n 0, 1) := by decide +kernel
theorem dX4_look_9 : decode cX4_look 9 = .ok (.getfield 14, 3) := by decide +kernel
theorem dX4_look_12 : decode cX4_look 12 = .ok (.areturn, 1) := by decide +kernel
theorem dX4_look_13 : decode cX4_look 13 = .ok (.aload_n 0, 1) := by decide +kernel
theorem dX4_look_14 : decode cX4_look 14 = .ok (.getfield 14, 3) := by decide +kernel
theorem dX4_look_17 : decode cX4_look 17 = .ok (.iconst 0, 1) := by decide +kernel
theorem dX4_look_18 : decode cX4_look 18 = .ok (.putfield 42, 3) := by decide +kernel
theorem dX4_look_21 : decode cX4_look 21 = .ok (.aload_n 0, 1) := by decide +kernel
theorem dX4_look_22 : decode cX4_look 22 = .ok (.iload_n 1, 1) := by decide +kernel
theorem dX4_look_23 : decode cX4_look 23 = .ok (.putfield 20, 3) := by decide +kernel
theorem dX4_look_26 : decode cX4_look 26 = .ok (.aload_n 0, 1) := by decide +kernel
theorem dX4_look_27 : decode cX4_look 27 = .ok (.invokevirtual 45, 3) := by decide +kernel
theorem dX4_look_30 : decode cX4_look 30 = .ok (.aload_n 0, 1) := by decide +kernel
theorem dX4_look_31 : decode cX4_look 31 = .ok (.getfield 38, 3) := by decide +kernel
theorem dX4_look_34 : decode cX4_look 34 = .ok (.aload_n 0, 1) := by decide +kernel
theorem dX4_look_35 : decode cX4_look 35 = .ok (.getfield 34, 3) := by decide +kernel
theorem dX4_look_38 : decode cX4_look 38 = .ok (.getfield 48, 3) := by decide +kernel
theorem dX4_look_41 : decode cX4_look 41 = .ok (.invokevirtual 54, 3) := by decide +kernel
theorem dX4_look_44 : decode cX4_look 44 = .ok (.aload_n 0, 1) := by decide +kernel
theorem dX4_look_45 : decode cX4_look 45 = .ok (.getfield 34, 3) := by decide +kernel
theorem dX4_look_48 : decode cX4_look 48 = .ok (.iload_n 1, 1) := by decide +kernel
theorem dX4_look_49 : decode cX4_look 49 = .ok (.invokevirtual 60, 3) := by decide +kernel
theorem dX4_look_52 : decode cX4_look 52 = .ok (.astore_n 2, 1) := by decide +kernel
theorem dX4_look_53 : decode cX4_look 53 = .ok (.aload_n 0, 1) := by decide +kernel
theorem dX4_look_54 : decode cX4_look 54 = .ok (.aload_n 2, 1) := by decide +kernel
theorem dX4_look_55 : decode cX4_look 55 = .ok (.iconst 0, 1) := by decide +kernel
theorem dX4_look_56 : decode cX4_look 56 = .ok (.invokevirtual 64, 3) := by decide +kernel
theorem dX4_look_59 : decode cX4_look 59 = .ok (.ifCond .eq 18, 3) := by decide +kernel
theorem dX4_look_62 : decode cX4_look 62 = .ok (.aload_n 0, 1) := by decide +kernel
theorem dX4_look_63 : decode cX4_look 63 = .ok (.aload_n 2, 1) := by decide +kernel
theorem dX4_look_64 : decode cX4_look 64 = .ok (.aload_n 2, 1) := by decide +kernel
theorem dX4_look_65 : decode cX4_look 65 = .ok (.iconst 0, 1) := by decide +kernel
theorem dX4_look_66 : decode cX4_look 66 = .ok (.aload_n 2, 1) := by decide +kernel
theorem dX4_look_67 : decode cX4_look 67 = .ok (.getfield 68, 3) := by decide +kernel
theorem dX4_look_70 : decode cX4_look 70 = .ok (.invokevirtual 73, 3) := by decide +kernel
theorem dX4_look_73 : decode cX4_look 73 = .ok (.iconst 0, 1) := by decide +kernel
theorem dX4_look_74 : decode cX4_look 74 = .ok (.invokevirtual 77, 3) := by decide +kernel
theorem dX4_look_77 : decode cX4_look 77 = .ok (.aload_n 0, 1) := by decide +kernel
theorem dX4_look_78 : decode cX4_look 78 = .ok (.getfield 14, 3) := by decide +kernel
theorem dX4_look_81 : decode cX4_look 81 = .ok (.areturn, 1) := by decide +kernel
theorem dX4_markGenerations_0 : decode cX4_markGenerations 0 = .ok (.aload_n 0, 1) := by decide +kernel
theorem dX4_markGenerations_1 : decode cX4_markGenerations 1 = .ok (.getfield 24, 3) := by decide +kernel
theorem dX4_markGenerations_4 : decode cX4_markGenerations 4 = .ok (.bipush 9, 2) := by decide +kernel
theorem dX4_markGenerations_6 : decode cX4_markGenerations 6 = .ok (.invokestatic 81, 3) := by decide +kernel
theorem dX4_markGenerations_9 : decode cX4_markGenerations 9 = .ok (.aload_n 0, 1) := by decide +kernel
theorem dX4_markGenerations_10 : decode cX4_markGenerations 10 = .ok (.getfield 34, 3) := by decide +kernel
theorem dX4_markGenerations_13 : decode cX4_markGenerations 13 = .ok (.getfield 48, 3) := by decide +kernel
theorem dX4_markGenerations_16 : decode cX4_markGenerations 16 = .ok (.astore_n 1, 1) := by decide +kernel
theorem dX4_markGenerations_17 : decode cX4_markGenerations 17 = .ok (.iconst 0, 1) := by decide +kernel
theorem dX4_markGenerations_18 : decode cX4_markGenerations 18 = .ok (.istore_n 2, 1) := by decide +kernel
theorem dX4_markGenerations_19 : decode cX4_markGenerations 19 = .ok (.iload_n 2, 1) := by decide +kernel
theorem dX4_markGenerations_20 : decode cX4_markGenerations 20 = .ok (.aload_n 1, 1) := by decide +kernel
theorem dX4_markGenerations_21 : decode cX4_markGenerations 21 = .ok (.getfield 87, 3) := by decide +kernel
theorem dX4_markGenerations_24 : decode cX4_markGenerations 24 = .ok (.if_icmp .ge 47, 3) := by decide +kernel
theorem dX4_markGenerations_27 : decode cX4_markGenerations 27 = .ok (.aload_n 1, 1) := by decide +kernel
theorem dX4_markGenerations_28 : decode cX4_markGenerations 28 = .ok (.getfield 90, 3) := by decide +kernel
theorem dX4_markGenerations_31 : decode cX4_markGenerations 31 = .ok (.iload_n 2, 1) := by decide +kernel
theorem dX4_markGenerations_32 : decode cX4_markGenerations 32 = .ok (.iaload, 1) := by decide +kernel
theorem dX4_markGenerations_33 : decode cX4_markGenerations 33 = .ok (.istore_n 3, 1) := by decide +kernel
theorem dX4_markGenerations_34 : decode cX4_markGenerations 34 = .ok (.iload_n 3, 1) := by decide +kernel
theorem dX4_markGenerations_35 : decode cX4_markGenerations 35 = .ok (.ifCond .lt 30, 3) := by decide +kernel
theorem dX4_markGenerations_38 : decode cX4_markGenerations 38 = .ok (.iload_n 3, 1) := by decide +kernel
theorem dX4_markGenerations_39 : decode cX4_markGenerations 39 = .ok (.bipush 50, 2) := by decide +kernel
theorem dX4_markGenerations_41 : decode cX4_markGenerations 41 = .ok (.if_icmp .ge 24, 3) := by decide +kernel
theorem dX4_markGenerations_44 : decode cX4_markGenerations 44 = .ok (.aload_n 0, 1) := by decide +kernel
theorem dX4_markGenerations_45 : decode cX4_markGenerations 45 = .ok (.getfield 24, 3) := by decide +kernel
theorem dX4_markGenerations_48 : decode cX4_markGenerations 48 = .ok (.iload_n 3, 1) := by decide +kernel
theorem dX4_markGenerations_49 : decode cX4_markGenerations 49 = .ok (.aload_n 0, 1) := by decide +kernel
theorem dX4_markGenerations_50 : decode cX4_markGenerations 50 = .ok (.getfield 24, 3) := by decide +kernel
theorem dX4_markGenerations_53 : decode cX4_markGenerations 53 = .ok (.iload_n 3, 1) := by decide +kernel
theorem dX4_markGenerations_54 : decode cX4_markGenerations 54 = .ok (.iaload, 1) := by decide +kernel
theorem dX4_markGenerations_55 : decode cX4_markGenerations 55 = .ok (.aload_n 1, 1) := by decide +kernel
theorem dX4_markGenerations_56 : decode cX4_markGenerations 56 = .ok (.getfield 93, 3) := by decide +kernel
theorem dX4_markGenerations_59 : decode cX4_markGenerations 59 = .ok (.iload_n 2, 1) := by decide +kernel
theorem dX4_markGenerations_60 : decode cX4_markGenerations 60 = .ok (.iaload, 1) := by decide +kernel
theorem dX4_markGenerations_61 : decode cX4_markGenerations 61 = .ok (.invokestatic 96, 3) := by decide +kernel
theorem dX4_markGenerations_64 : decode cX4_markGenerations 64 = .ok (.iastore, 1) := by decide +kernel
theorem dX4_markGenerations_65 : decode cX4_markGenerations 65 = .ok (.iinc 2 1, 3) := by decide +kernel
theorem dX4_markGenerations_68 : decode cX4_markGenerations 68 = .ok (.goto (-49), 3) := by decide +kernel
theorem dX4_markGenerations_71 : decode cX4_markGenerations 71 = .ok (.return_, 1) := by decide +kernel
theorem dX4_choose_0 : decode cX4_choose 0 = .ok (.iload_n 3, 1) := by decide +kernel
theorem dX4_choose_1 : decode cX4_choose 1 = .ok (.iconst 3, 1) := by decide +kernel
theorem dX4_choose_2 : decode cX4_choose 2 = .ok (.if_icmp .lt 9, 3) := by decide +kernel
theorem dX4_choose_5 : decode cX4_choose 5 = .ok (.aload_n 0, 1) := by decide +kernel
theorem dX4_choose_6 : decode cX4_choose 6 = .ok (.aload_n 1, 1) := by decide +kernel
theorem dX4_choose_7 : decode cX4_choose 7 = .ok (.invokevirtual 101, 3) := by decide +kernel
theorem dX4_choose_10 : decode cX4_choose 10 = .ok (.return_, 1) := by decide +kernel
theorem dX4_choose_11 : decode cX4_choose 11 = .ok (.iload_n 2, 1) := by decide +kernel
theorem dX4_choose_12 : decode cX4_choose 12 = .ok (.iload_n 3, 1) := by decide +kernel
theorem dX4_choose_13 : decode cX4_choose 13 = .ok (.ishr, 1) := by decide +kernel
theorem dX4_choose_14 : decode cX4_choose 14 = .ok (.iconst 1, 1) := by decide +kernel
theorem dX4_choose_15 : decode cX4_choose 15 = .ok (.iand, 1) := by decide +kernel
theorem dX4_choose_16 : decode cX4_choose 16 = .ok (.ifCond .ne 20, 3) := by decide +kernel
theorem dX4_choose_19 : decode cX4_choose 19 = .ok (.aload_n 0, 1) := by decide +kernel
theorem dX4_choose_20 : decode cX4_choose 20 = .ok (.getfield 31, 3) := by decide +kernel
theorem dX4_choose_23 : decode cX4_choose 23 = .ok (.iload_n 3, 1) := by decide +kernel
theorem dX4_choose_24 : decode cX4_choose 24 = .ok (.iconst (-1), 1) := by decide +kernel
theorem dX4_choose_25 : decode cX4_choose 25 = .ok (.iastore, 1) := by decide +kernel
theorem dX4_choose_26 : decode cX4_choose 26 = .ok (.aload_n 0, 1) := by decide +kernel
theorem dX4_choose_27 : decode cX4_choose 27 = .ok (.aload_n 1, 1) := by decide +kernel
theorem dX4_choose_28 : decode cX4_choose 28 = .ok (.iload_n 2, 1) := by decide +kernel
theorem dX4_choose_29 : decode cX4_choose 29 = .ok (.iload_n 3, 1) := by decide +kernel
theorem dX4_choose_30 : decode cX4_choose 30 = .ok (.iconst 1, 1) := by decide +kernel
theorem dX4_choose_31 : decode cX4_choose 31 = .ok (.iadd, 1) := by decide +kernel
theorem dX4_choose_32 : decode cX4_choose 32 = .ok (.invokevirtual 77, 3) := by decide +kernel
theorem dX4_choose_35 : decode cX4_choose 35 = .ok (.return_, 1) := by decide +kernel
theorem dX4_choose_36 : decode cX4_choose 36 = .ok (.aload_n 0, 1) := by decide +kernel
theorem dX4_choose_37 : decode cX4_choose 37 = .ok (.aload_n 1, 1) := by decide +kernel
theorem dX4_choose_38 : decode cX4_choose 38 = .ok (.iload_n 3, 1) := by decide +kernel
theorem dX4_choose_39 : decode cX4_choose 39 = .ok (.invokevirtual 105, 3) := by decide +kernel
theorem dX4_choose_42 : decode cX4_choose 42 = .ok (.lstore 4, 2) := by decide +kernel
theorem dX4_choose_44 : decode cX4_choose 44 = .ok (.iconst 0, 1) := by decide +kernel
theorem dX4_choose_45 : decode cX4_choose 45 = .ok (.istore 6, 2) := by decide +kernel
theorem dX4_choose_47 : decode cX4_choose 47 = .ok (.iload 6, 2) := by decide +kernel
theorem dX4_choose_49 : decode cX4_choose 49 = .ok (.aload_n 0, 1) := by decide +kernel
theorem dX4_choose_50 : decode cX4_choose 50 = .ok (.getfield 34, 3) := by decide +kernel
theorem dX4_choose_53 : decode cX4_choose 53 = .ok (.getfield 48, 3) := by decide +kernel
theorem dX4_choose_56 : decode cX4_choose 56 = .ok (.getfield 87, 3) := by decide +kernel
theorem dX4_choose_59 : decode cX4_choose 59 = .ok (.if_icmp .ge 62, 3) := by decide +kernel
theorem dX4_choose_62 : decode cX4_choose 62 = .ok (.aload_n 0, 1) := by decide +kernel
theorem dX4_choose_63 : decode cX4_choose 63 = .ok (.getfield 14, 3) := by decide +kernel
theorem dX4_choose_66 : decode cX4_choose 66 = .ok (.invokevirtual 109, 3) := by decide +kernel
theorem dX4_choose_69 : decode cX4_choose 69 = .ok (.ifCond .ne 52, 3) := by decide +kernel
theorem dX4_choose_72 : decode cX4_choose 72 = .ok (.lload 4, 2) := by decide +kernel
theorem dX4_choose_74 : decode cX4_choose 74 = .ok (.iload 6, 2) := by decide +kernel
theorem dX4_choose_76 : decode cX4_choose 76 = .ok (.lushr, 1) := by decide +kernel
theorem dX4_choose_77 : decode cX4_choose 77 = .ok (.lconst 1, 1) := by decide +kernel
theorem dX4_choose_78 : decode cX4_choose 78 = .ok (.land, 1) := by decide +kernel
theorem dX4_choose_79 : decode cX4_choose 79 = .ok (.lconst 0, 1) := by decide +kernel
theorem dX4_choose_80 : decode cX4_choose 80 = .ok (.lcmp, 1) := by decide +kernel
theorem dX4_choose_81 : decode cX4_choose 81 = .ok (.ifCond .ne 6, 3) := by decide +kernel
theorem dX4_choose_84 : decode cX4_choose 84 = .ok (.goto 31, 3) := by decide +kernel
theorem dX4_choose_87 : decode cX4_choose 87 = .ok (.aload_n 0, 1) := by decide +kernel
theorem dX4_choose_88 : decode cX4_choose 88 = .ok (.getfield 31, 3) := by decide +kernel
theorem dX4_choose_91 : decode cX4_choose 91 = .ok (.iload_n 3, 1) := by decide +kernel
theorem dX4_choose_92 : decode cX4_choose 92 = .ok (.iload 6, 2) := by decide +kernel
theorem dX4_choose_94 : decode cX4_choose 94 = .ok (.iastore, 1) := by decide +kernel
theorem dX4_choose_95 : decode cX4_choose 95 = .ok (.aload_n 0, 1) := by decide +kernel
theorem dX4_choose_96 : decode cX4_choose 96 = .ok (.aload_n 1, 1) := by decide +kernel
theorem dX4_choose_97 : decode cX4_choose 97 = .ok (.iload_n 3, 1) := by decide +kernel
theorem dX4_choose_98 : decode cX4_choose 98 = .ok (.iconst 1, 1) := by decide +kernel
theorem dX4_choose_99 : decode cX4_choose 99 = .ok (.iadd, 1) := by decide +kernel
theorem dX4_choose_100 : decode cX4_choose 100 = .ok (.invokevirtual 64, 3) := by decide +kernel
theorem dX4_choose_103 : decode cX4_choose 103 = .ok (.ifCond .eq 12, 3) := by decide +kernel
theorem dX4_choose_106 : decode cX4_choose 106 = .ok (.aload_n 0, 1) := by decide +kernel
theorem dX4_choose_107 : decode cX4_choose 107 = .ok (.aload_n 1, 1) := by decide +kernel
theorem dX4_choose_108 : decode cX4_choose 108 = .ok (.iload_n 2, 1) := by decide +kernel
theorem dX4_choose_109 : decode cX4_choose 109 = .ok (.iload_n 3, 1) := by decide +kernel
theorem dX4_choose_110 : decode cX4_choose 110 = .ok (.iconst 1, 1) := by decide +kernel
theorem dX4_choose_111 : decode cX4_choose 111 = .ok (.iadd, 1) := by decide +kernel
theorem dX4_choose_112 : decode cX4_choose 112 = .ok (.invokevirtual 77, 3) := by decide +kernel
theorem dX4_choose_115 : decode cX4_choose 115 = .ok (.iinc 6 1, 3) := by decide +kernel
theorem dX4_choose_118 : decode cX4_choose 118 = .ok (.goto (-71), 3) := by decide +kernel
theorem dX4_choose_121 : decode cX4_choose 121 = .ok (.return_, 1) := by decide +kernel
theorem dX4_fitting_0 : decode cX4_fitting 0 = .ok (.ldc2_w 113, 3) := by decide +kernel
theorem dX4_fitting_3 : decode cX4_fitting 3 = .ok (.lstore_n 3, 1) := by decide +kernel
theorem dX4_fitting_4 : decode cX4_fitting 4 = .ok (.iconst 0, 1) := by decide +kernel
theorem dX4_fitting_5 : decode cX4_fitting 5 = .ok (.istore 5, 2) := by decide +kernel
theorem dX4_fitting_7 : decode cX4_fitting 7 = .ok (.iload 5, 2) := by decide +kernel
theorem dX4_fitting_9 : decode cX4_fitting 9 = .ok (.aload_n 1, 1) := by decide +kernel
theorem dX4_fitting_10 : decode cX4_fitting 10 = .ok (.getfield 68, 3) := by decide +kernel
theorem dX4_fitting_13 : decode cX4_fitting 13 = .ok (.if_icmp .ge 92, 3) := by decide +kernel
theorem dX4_fitting_16 : decode cX4_fitting 16 = .ok (.aload_n 1, 1) := by decide +kernel
theorem dX4_fitting_17 : decode cX4_fitting 17 = .ok (.aload_n 1, 1) := by decide +kernel
theorem dX4_fitting_18 : decode cX4_fitting 18 = .ok (.getfield 115, 3) := by decide +kernel
theorem dX4_fitting_21 : decode cX4_fitting 21 = .ok (.iload 5, 2) := by decide +kernel
theorem dX4_fitting_23 : decode cX4_fitting 23 = .ok (.iaload, 1) := by decide +kernel
theorem dX4_fitting_24 : decode cX4_fitting 24 = .ok (.iload_n 2, 1) := by decide +kernel
theorem dX4_fitting_25 : decode cX4_fitting 25 = .ok (.invokevirtual 118, 3) := by decide +kernel
theorem dX4_fitting_28 : decode cX4_fitting 28 = .ok (.ifCond .eq 33, 3) := by decide +kernel
theorem dX4_fitting_31 : decode cX4_fitting 31 = .ok (.lload_n 3, 1) := by decide +kernel
theorem dX4_fitting_32 : decode cX4_fitting 32 = .ok (.aload_n 0, 1) := by decide +kernel
theorem dX4_fitting_33 : decode cX4_fitting 33 = .ok (.getfield 38, 3) := by decide +kernel
theorem dX4_fitting_36 : decode cX4_fitting 36 = .ok (.aload_n 1, 1) := by decide +kernel
theorem dX4_fitting_37 : decode cX4_fitting 37 = .ok (.getfield 122, 3) := by decide +kernel
theorem dX4_fitting_40 : decode cX4_fitting 40 = .ok (.iload 5, 2) := by decide +kernel
theorem dX4_fitting_42 : decode cX4_fitting 42 = .ok (.iaload, 1) := by decide +kernel
theorem dX4_fitting_43 : decode cX4_fitting 43 = .ok (.aload_n 0, 1) := by decide +kernel
theorem dX4_fitting_44 : decode cX4_fitting 44 = .ok (.aload_n 1, 1) := by decide +kernel
theorem dX4_fitting_45 : decode cX4_fitting 45 = .ok (.aload_n 1, 1) := by decide +kernel
theorem dX4_fitting_46 : decode cX4_fitting 46 = .ok (.getfield 125, 3) := by decide +kernel
theorem dX4_fitting_49 : decode cX4_fitting 49 = .ok (.iload 5, 2) := by decide +kernel
theorem dX4_fitting_51 : decode cX4_fitting 51 = .ok (.iaload, 1) := by decide +kernel
theorem dX4_fitting_52 : decode cX4_fitting 52 = .ok (.iload_n 2, 1) := by decide +kernel
theorem dX4_fitting_53 : decode cX4_fitting 53 = .ok (.invokevirtual 128, 3) := by decide +kernel
theorem dX4_fitting_56 : decode cX4_fitting 56 = .ok (.invokevirtual 132, 3) := by decide +kernel
theorem dX4_fitting_59 : decode cX4_fitting 59 = .ok (.land, 1) := by decide +kernel
theorem dX4_fitting_60 : decode cX4_fitting 60 = .ok (.lstore_n 3, 1) := by decide +kernel
theorem dX4_fitting_61 : decode cX4_fitting 61 = .ok (.aload_n 1, 1) := by decide +kernel
theorem dX4_fitting_62 : decode cX4_fitting 62 = .ok (.aload_n 1, 1) := by decide +kernel
theorem dX4_fitting_63 : decode cX4_fitting 63 = .ok (.getfield 125, 3) := by decide +kernel
theorem dX4_fitting_66 : decode cX4_fitting 66 = .ok (.iload 5, 2) := by decide +kernel
theorem dX4_fitting_68 : decode cX4_fitting 68 = .ok (.iaload, 1) := by decide +kernel
theorem dX4_fitting_69 : decode cX4_fitting 69 = .ok (.iload_n 2, 1) := by decide +kernel
theorem dX4_fitting_70 : decode cX4_fitting 70 = .ok (.invokevirtual 118, 3) := by decide +kernel
theorem dX4_fitting_73 : decode cX4_fitting 73 = .ok (.ifCond .eq 26, 3) := by decide +kernel
theorem dX4_fitting_76 : decode cX4_fitting 76 = .ok (.lload_n 3, 1) := by decide +kernel
theorem dX4_fitting_77 : decode cX4_fitting 77 = .ok (.aload_n 0, 1) := by decide +kernel
theorem dX4_fitting_78 : decode cX4_fitting 78 = .ok (.getfield 38, 3) := by decide +kernel
theorem dX4_fitting_81 : decode cX4_fitting 81 = .ok (.aload_n 0, 1) := by decide +kernel
theorem dX4_fitting_82 : decode cX4_fitting 82 = .ok (.aload_n 1, 1) := by decide +kernel
theorem dX4_fitting_83 : decode cX4_fitting 83 = .ok (.aload_n 1, 1) := by decide +kernel
theorem dX4_fitting_84 : decode cX4_fitting 84 = .ok (.getfield 115, 3) := by decide +kernel
theorem dX4_fitting_87 : decode cX4_fitting 87 = .ok (.iload 5, 2) := by decide +kernel
theorem dX4_fitting_89 : decode cX4_fitting 89 = .ok (.iaload, 1) := by decide +kernel
theorem dX4_fitting_90 : decode cX4_fitting 90 = .ok (.iload_n 2, 1) := by decide +kernel
theorem dX4_fitting_91 : decode cX4_fitting 91 = .ok (.invokevirtual 128, 3) := by decide +kernel
theorem dX4_fitting_94 : decode cX4_fitting 94 = .ok (.invokevirtual 136, 3) := by decide +kernel
theorem dX4_fitting_97 : decode cX4_fitting 97 = .ok (.land, 1) := by decide +kernel
theorem dX4_fitting_98 : decode cX4_fitting 98 = .ok (.lstore_n 3, 1) := by decide +kernel
theorem dX4_fitting_99 : decode cX4_fitting 99 = .ok (.iinc 5 1, 3) := by decide +kernel
theorem dX4_fitting_102 : decode cX4_fitting 102 = .ok (.goto (-95), 3) := by decide +kernel
theorem dX4_fitting_105 : decode cX4_fitting 105 = .ok (.lload_n 3, 1) := by decide +kernel
theorem dX4_fitting_106 : decode cX4_fitting 106 = .ok (.lreturn, 1) := by decide +kernel
theorem dX4_knownValue_0 : decode cX4_knownValue 0 = .ok (.aload_n 1, 1) := by decide +kernel
theorem dX4_knownValue_1 : decode cX4_knownValue 1 = .ok (.iload_n 2, 1) := by decide +kernel
theorem dX4_knownValue_2 : decode cX4_knownValue 2 = .ok (.invokevirtual 140, 3) := by decide +kernel
theorem dX4_knownValue_5 : decode cX4_knownValue 5 = .ok (.iload_n 3, 1) := by decide +kernel
theorem dX4_knownValue_6 : decode cX4_knownValue 6 = .ok (.if_icmp .gt 11, 3) := by decide +kernel
theorem dX4_knownValue_9 : decode cX4_knownValue 9 = .ok (.aload_n 0, 1) := by decide +kernel
theorem dX4_knownValue_10 : decode cX4_knownValue 10 = .ok (.iload_n 2, 1) := by decide +kernel
theorem dX4_knownValue_11 : decode cX4_knownValue 11 = .ok (.invokevirtual 144, 3) := by decide +kernel
theorem dX4_knownValue_14 : decode cX4_knownValue 14 = .ok (.goto 4, 3) := by decide +kernel
theorem dX4_knownValue_17 : decode cX4_knownValue 17 = .ok (.iconst (-1), 1) := by decide +kernel
theorem dX4_knownValue_18 : decode cX4_knownValue 18 = .ok (.ireturn, 1) := by decide +kernel
theorem dX4_valueOf_0 : decode cX4_valueOf 0 = .ok (.iload_n 1, 1) := by decide +kernel
theorem dX4_valueOf_1 : decode cX4_valueOf 1 = .ok (.ifCond .lt 18, 3) := by decide +kernel
theorem dX4_valueOf_4 : decode cX4_valueOf 4 = .ok (.iload_n 1, 1) := by decide +kernel
theorem dX4_valueOf_5 : decode cX4_valueOf 5 = .ok (.bipush 120, 2) := by decide +kernel
theorem dX4_valueOf_7 : decode cX4_valueOf 7 = .ok (.if_icmp .ge 12, 3) := by decide +kernel
theorem dX4_valueOf_10 : decode cX4_valueOf 10 = .ok (.aload_n 0, 1) := by decide +kernel
theorem dX4_valueOf_11 : decode cX4_valueOf 11 = .ok (.getfield 28, 3) := by decide +kernel
theorem dX4_valueOf_14 : decode cX4_valueOf 14 = .ok (.iload_n 1, 1) := by decide +kernel
theorem dX4_valueOf_15 : decode cX4_valueOf 15 = .ok (.iaload, 1) := by decide +kernel
theorem dX4_valueOf_16 : decode cX4_valueOf 16 = .ok (.goto 4, 3) := by decide +kernel
theorem dX4_valueOf_19 : decode cX4_valueOf 19 = .ok (.iconst (-1), 1) := by decide +kernel
theorem dX4_valueOf_20 : decode cX4_valueOf 20 = .ok (.ireturn, 1) := by decide +kernel
theorem dX4_stands_0 : decode cX4_stands 0 = .ok (.iconst 0, 1) := by decide +kernel
theorem dX4_stands_1 : decode cX4_stands 1 = .ok (.istore_n 3, 1) := by decide +kernel
theorem dX4_stands_2 : decode cX4_stands 2 = .ok (.iload_n 3, 1) := by decide +kernel
theorem dX4_stands_3 : decode cX4_stands 3 = .ok (.aload_n 1, 1) := by decide +kernel
theorem dX4_stands_4 : decode cX4_stands 4 = .ok (.getfield 68, 3) := by decide +kernel
theorem dX4_stands_7 : decode cX4_stands 7 = .ok (.if_icmp .ge 129, 3) := by decide +kernel
theorem dX4_stands_10 : decode cX4_stands 10 = .ok (.iload_n 3, 1) := by decide +kernel
theorem dX4_stands_11 : decode cX4_stands 11 = .ok (.bipush 120, 2) := by decide +kernel
theorem dX4_stands_13 : decode cX4_stands 13 = .ok (.if_icmp .ge 123, 3) := by decide +kernel
theorem dX4_stands_16 : decode cX4_stands 16 = .ok (.aload_n 1, 1) := by decide +kernel
theorem dX4_stands_17 : decode cX4_stands 17 = .ok (.getfield 147, 3) := by decide +kernel
theorem dX4_stands_20 : decode cX4_stands 20 = .ok (.iload_n 3, 1) := by decide +kernel
theorem dX4_stands_21 : decode cX4_stands 21 = .ok (.iaload, 1) := by decide +kernel
theorem dX4_stands_22 : decode cX4_stands 22 = .ok (.iload_n 2, 1) := by decide +kernel
theorem dX4_stands_23 : decode cX4_stands 23 = .ok (.if_icmp .eq 6, 3) := by decide +kernel
theorem dX4_stands_26 : decode cX4_stands 26 = .ok (.goto 104, 3) := by decide +kernel
theorem dX4_stands_29 : decode cX4_stands 29 = .ok (.aload_n 1, 1) := by decide +kernel
theorem dX4_stands_30 : decode cX4_stands 30 = .ok (.getfield 122, 3) := by decide +kernel
theorem dX4_stands_33 : decode cX4_stands 33 = .ok (.iload_n 3, 1) := by decide +kernel
theorem dX4_stands_34 : decode cX4_stands 34 = .ok (.iaload, 1) := by decide +kernel
theorem dX4_stands_35 : decode cX4_stands 35 = .ok (.bipush 7, 2) := by decide +kernel
theorem dX4_stands_37 : decode cX4_stands 37 = .ok (.if_icmp .lt 25, 3) := by decide +kernel
theorem dX4_stands_40 : decode cX4_stands 40 = .ok (.aload_n 0, 1) := by decide +kernel
theorem dX4_stands_41 : decode cX4_stands 41 = .ok (.getfield 28, 3) := by decide +kernel
theorem dX4_stands_44 : decode cX4_stands 44 = .ok (.iload_n 3, 1) := by decide +kernel
theorem dX4_stands_45 : decode cX4_stands 45 = .ok (.aload_n 0, 1) := by decide +kernel
theorem dX4_stands_46 : decode cX4_stands 46 = .ok (.aload_n 1, 1) := by decide +kernel
theorem dX4_stands_47 : decode cX4_stands 47 = .ok (.getfield 122, 3) := by decide +kernel
theorem dX4_stands_50 : decode cX4_stands 50 = .ok (.iload_n 3, 1) := by decide +kernel
theorem dX4_stands_51 : decode cX4_stands 51 = .ok (.iaload, 1) := by decide +kernel
theorem dX4_stands_52 : decode cX4_stands 52 = .ok (.bipush 7, 2) := by decide +kernel
theorem dX4_stands_54 : decode cX4_stands 54 = .ok (.isub, 1) := by decide +kernel
theorem dX4_stands_55 : decode cX4_stands 55 = .ok (.invokevirtual 150, 3) := by decide +kernel
theorem dX4_stands_58 : decode cX4_stands 58 = .ok (.iastore, 1) := by decide +kernel
theorem dX4_stands_59 : decode cX4_stands 59 = .ok (.goto 59, 3) := by decide +kernel
theorem dX4_stands_62 : decode cX4_stands 62 = .ok (.aload_n 1, 1) := by decide +kernel
theorem dX4_stands_63 : decode cX4_stands 63 = .ok (.getfield 122, 3) := by decide +kernel
theorem dX4_stands_66 : decode cX4_stands 66 = .ok (.iload_n 3, 1) := by decide +kernel
theorem dX4_stands_67 : decode cX4_stands 67 = .ok (.iaload, 1) := by decide +kernel
theorem dX4_stands_68 : decode cX4_stands 68 = .ok (.aload_n 0, 1) := by decide +kernel
theorem dX4_stands_69 : decode cX4_stands 69 = .ok (.aload_n 1, 1) := by decide +kernel
theorem dX4_stands_70 : decode cX4_stands 70 = .ok (.getfield 115, 3) := by decide +kernel
theorem dX4_stands_73 : decode cX4_stands 73 = .ok (.iload_n 3, 1) := by decide +kernel
theorem dX4_stands_74 : decode cX4_stands 74 = .ok (.iaload, 1) := by decide +kernel
theorem dX4_stands_75 : decode cX4_stands 75 = .ok (.invokevirtual 144, 3) := by decide +kernel
theorem dX4_stands_78 : decode cX4_stands 78 = .ok (.aload_n 0, 1) := by decide +kernel
theorem dX4_stands_79 : decode cX4_stands 79 = .ok (.aload_n 1, 1) := by decide +kernel
theorem dX4_stands_80 : decode cX4_stands 80 = .ok (.getfield 125, 3) := by decide +kernel
theorem dX4_stands_83 : decode cX4_stands 83 = .ok (.iload_n 3, 1) := by decide +kernel
theorem dX4_stands_84 : decode cX4_stands 84 = .ok (.iaload, 1) := by decide +kernel
theorem dX4_stands_85 : decode cX4_stands 85 = .ok (.invokevirtual 144, 3) := by decide +kernel
end
section
theorem dX4_stands_88 : decode cX4_stands 88 = .ok (.invokestatic 153, 3) := by decide +kernel
theorem dX4_stands_91 : decode cX4_stands 91 = .ok (.istore 4, 2) := by decide +kernel
theorem dX4_stands_93 : decode cX4_stands 93 = .ok (.aload_n 0, 1) := by decide +kernel
theorem dX4_stands_94 : decode cX4_stands 94 = .ok (.getfield 28, 3) := by decide +kernel
theorem dX4_stands_97 : decode cX4_stands 97 = .ok (.iload_n 3, 1) := by decide +kernel
theorem dX4_stands_98 : decode cX4_stands 98 = .ok (.iload 4, 2) := by decide +kernel
theorem dX4_stands_100 : decode cX4_stands 100 = .ok (.ifCond .ge 7, 3) := by decide +kernel
theorem dX4_stands_103 : decode cX4_stands 103 = .ok (.iconst (-1), 1) := by decide +kernel
theorem dX4_stands_104 : decode cX4_stands 104 = .ok (.goto 13, 3) := by decide +kernel
theorem dX4_stands_107 : decode cX4_stands 107 = .ok (.aload_n 0, 1) := by decide +kernel
theorem dX4_stands_108 : decode cX4_stands 108 = .ok (.getfield 38, 3) := by decide +kernel
theorem dX4_stands_111 : decode cX4_stands 111 = .ok (.getfield 157, 3) := by decide +kernel
theorem dX4_stands_114 : decode cX4_stands 114 = .ok (.iload 4, 2) := by decide +kernel
theorem dX4_stands_116 : decode cX4_stands 116 = .ok (.iaload, 1) := by decide +kernel
theorem dX4_stands_117 : decode cX4_stands 117 = .ok (.iastore, 1) := by decide +kernel
theorem dX4_stands_118 : decode cX4_stands 118 = .ok (.aload_n 0, 1) := by decide +kernel
theorem dX4_stands_119 : decode cX4_stands 119 = .ok (.getfield 28, 3) := by decide +kernel
theorem dX4_stands_122 : decode cX4_stands 122 = .ok (.iload_n 3, 1) := by decide +kernel
theorem dX4_stands_123 : decode cX4_stands 123 = .ok (.iaload, 1) := by decide +kernel
theorem dX4_stands_124 : decode cX4_stands 124 = .ok (.iconst (-1), 1) := by decide +kernel
theorem dX4_stands_125 : decode cX4_stands 125 = .ok (.if_icmp .ne 5, 3) := by decide +kernel
theorem dX4_stands_128 : decode cX4_stands 128 = .ok (.iconst 0, 1) := by decide +kernel
theorem dX4_stands_129 : decode cX4_stands 129 = .ok (.ireturn, 1) := by decide +kernel
theorem dX4_stands_130 : decode cX4_stands 130 = .ok (.iinc 3 1, 3) := by decide +kernel
theorem dX4_stands_133 : decode cX4_stands 133 = .ok (.goto (-131), 3) := by decide +kernel
theorem dX4_stands_136 : decode cX4_stands 136 = .ok (.iconst 1, 1) := by decide +kernel
theorem dX4_stands_137 : decode cX4_stands 137 = .ok (.ireturn, 1) := by decide +kernel
theorem dX4_chosenFor_0 : decode cX4_chosenFor 0 = .ok (.iload_n 1, 1) := by decide +kernel
theorem dX4_chosenFor_1 : decode cX4_chosenFor 1 = .ok (.ifCond .lt 17, 3) := by decide +kernel
theorem dX4_chosenFor_4 : decode cX4_chosenFor 4 = .ok (.iload_n 1, 1) := by decide +kernel
theorem dX4_chosenFor_5 : decode cX4_chosenFor 5 = .ok (.iconst 3, 1) := by decide +kernel
theorem dX4_chosenFor_6 : decode cX4_chosenFor 6 = .ok (.if_icmp .ge 12, 3) := by decide +kernel
theorem dX4_chosenFor_9 : decode cX4_chosenFor 9 = .ok (.aload_n 0, 1) := by decide +kernel
theorem dX4_chosenFor_10 : decode cX4_chosenFor 10 = .ok (.getfield 31, 3) := by decide +kernel
theorem dX4_chosenFor_13 : decode cX4_chosenFor 13 = .ok (.iload_n 1, 1) := by decide +kernel
theorem dX4_chosenFor_14 : decode cX4_chosenFor 14 = .ok (.iaload, 1) := by decide +kernel
theorem dX4_chosenFor_15 : decode cX4_chosenFor 15 = .ok (.goto 4, 3) := by decide +kernel
theorem dX4_chosenFor_18 : decode cX4_chosenFor 18 = .ok (.iconst (-1), 1) := by decide +kernel
theorem dX4_chosenFor_19 : decode cX4_chosenFor 19 = .ok (.ireturn, 1) := by decide +kernel
theorem dX4_note_0 : decode cX4_note 0 = .ok (.aload_n 0, 1) := by decide +kernel
theorem dX4_note_1 : decode cX4_note 1 = .ok (.aload_n 1, 1) := by decide +kernel
theorem dX4_note_2 : decode cX4_note 2 = .ok (.getfield 68, 3) := by decide +kernel
theorem dX4_note_5 : decode cX4_note 5 = .ok (.iconst 1, 1) := by decide +kernel
theorem dX4_note_6 : decode cX4_note 6 = .ok (.isub, 1) := by decide +kernel
theorem dX4_note_7 : decode cX4_note 7 = .ok (.invokevirtual 144, 3) := by decide +kernel
theorem dX4_note_10 : decode cX4_note 10 = .ok (.istore_n 2, 1) := by decide +kernel
theorem dX4_note_11 : decode cX4_note 11 = .ok (.aload_n 0, 1) := by decide +kernel
theorem dX4_note_12 : decode cX4_note 12 = .ok (.iload_n 2, 1) := by decide +kernel
theorem dX4_note_13 : decode cX4_note 13 = .ok (.invokevirtual 160, 3) := by decide +kernel
theorem dX4_note_16 : decode cX4_note 16 = .ok (.istore_n 3, 1) := by decide +kernel
theorem dX4_note_17 : decode cX4_note 17 = .ok (.iconst 0, 1) := by decide +kernel
theorem dX4_note_18 : decode cX4_note 18 = .ok (.istore 4, 2) := by decide +kernel
theorem dX4_note_20 : decode cX4_note 20 = .ok (.iload 4, 2) := by decide +kernel
theorem dX4_note_22 : decode cX4_note 22 = .ok (.iconst 3, 1) := by decide +kernel
theorem dX4_note_23 : decode cX4_note 23 = .ok (.if_icmp .ge 25, 3) := by decide +kernel
theorem dX4_note_26 : decode cX4_note 26 = .ok (.iload_n 3, 1) := by decide +kernel
theorem dX4_note_27 : decode cX4_note 27 = .ok (.aload_n 0, 1) := by decide +kernel
theorem dX4_note_28 : decode cX4_note 28 = .ok (.aload_n 0, 1) := by decide +kernel
theorem dX4_note_29 : decode cX4_note 29 = .ok (.getfield 31, 3) := by decide +kernel
theorem dX4_note_32 : decode cX4_note 32 = .ok (.iload 4, 2) := by decide +kernel
theorem dX4_note_34 : decode cX4_note 34 = .ok (.iaload, 1) := by decide +kernel
theorem dX4_note_35 : decode cX4_note 35 = .ok (.invokevirtual 160, 3) := by decide +kernel
theorem dX4_note_38 : decode cX4_note 38 = .ok (.invokestatic 163, 3) := by decide +kernel
theorem dX4_note_41 : decode cX4_note 41 = .ok (.istore_n 3, 1) := by decide +kernel
theorem dX4_note_42 : decode cX4_note 42 = .ok (.iinc 4 1, 3) := by decide +kernel
theorem dX4_note_45 : decode cX4_note 45 = .ok (.goto (-25), 3) := by decide +kernel
theorem dX4_note_48 : decode cX4_note 48 = .ok (.aload_n 0, 1) := by decide +kernel
theorem dX4_note_49 : decode cX4_note 49 = .ok (.getfield 14, 3) := by decide +kernel
theorem dX4_note_52 : decode cX4_note 52 = .ok (.aload_n 0, 1) := by decide +kernel
theorem dX4_note_53 : decode cX4_note 53 = .ok (.getfield 20, 3) := by decide +kernel
theorem dX4_note_56 : decode cX4_note 56 = .ok (.aload_n 0, 1) := by decide +kernel
theorem dX4_note_57 : decode cX4_note 57 = .ok (.getfield 31, 3) := by decide +kernel
theorem dX4_note_60 : decode cX4_note 60 = .ok (.iconst 0, 1) := by decide +kernel
theorem dX4_note_61 : decode cX4_note 61 = .ok (.iaload, 1) := by decide +kernel
theorem dX4_note_62 : decode cX4_note 62 = .ok (.aload_n 0, 1) := by decide +kernel
theorem dX4_note_63 : decode cX4_note 63 = .ok (.getfield 31, 3) := by decide +kernel
theorem dX4_note_66 : decode cX4_note 66 = .ok (.iconst 1, 1) := by decide +kernel
theorem dX4_note_67 : decode cX4_note 67 = .ok (.iaload, 1) := by decide +kernel
theorem dX4_note_68 : decode cX4_note 68 = .ok (.aload_n 0, 1) := by decide +kernel
theorem dX4_note_69 : decode cX4_note 69 = .ok (.getfield 31, 3) := by decide +kernel
theorem dX4_note_72 : decode cX4_note 72 = .ok (.iconst 2, 1) := by decide +kernel
theorem dX4_note_73 : decode cX4_note 73 = .ok (.iaload, 1) := by decide +kernel
theorem dX4_note_74 : decode cX4_note 74 = .ok (.iload_n 2, 1) := by decide +kernel
theorem dX4_note_75 : decode cX4_note 75 = .ok (.iload_n 3, 1) := by decide +kernel
theorem dX4_note_76 : decode cX4_note 76 = .ok (.iconst 1, 1) := by decide +kernel
theorem dX4_note_77 : decode cX4_note 77 = .ok (.iadd, 1) := by decide +kernel
theorem dX4_note_78 : decode cX4_note 78 = .ok (.invokevirtual 166, 3) := by decide +kernel
theorem dX4_note_81 : decode cX4_note 81 = .ok (.return_, 1) := by decide +kernel
theorem dX4_leastOf_0 : decode cX4_leastOf 0 = .ok (.iload_n 1, 1) := by decide +kernel
theorem dX4_leastOf_1 : decode cX4_leastOf 1 = .ok (.ifCond .lt 18, 3) := by decide +kernel
theorem dX4_leastOf_4 : decode cX4_leastOf 4 = .ok (.iload_n 1, 1) := by decide +kernel
theorem dX4_leastOf_5 : decode cX4_leastOf 5 = .ok (.bipush 50, 2) := by decide +kernel
theorem dX4_leastOf_7 : decode cX4_leastOf 7 = .ok (.if_icmp .ge 12, 3) := by decide +kernel
theorem dX4_leastOf_10 : decode cX4_leastOf 10 = .ok (.aload_n 0, 1) := by decide +kernel
theorem dX4_leastOf_11 : decode cX4_leastOf 11 = .ok (.getfield 24, 3) := by decide +kernel
theorem dX4_leastOf_14 : decode cX4_leastOf 14 = .ok (.iload_n 1, 1) := by decide +kernel
theorem dX4_leastOf_15 : decode cX4_leastOf 15 = .ok (.iaload, 1) := by decide +kernel
theorem dX4_leastOf_16 : decode cX4_leastOf 16 = .ok (.goto 4, 3) := by decide +kernel
theorem dX4_leastOf_19 : decode cX4_leastOf 19 = .ok (.iconst 0, 1) := by decide +kernel
theorem dX4_leastOf_20 : decode cX4_leastOf 20 = .ok (.ireturn, 1) := by decide +kernel
theorem dX5_init_0 : decode cX5_init 0 = .ok (.aload_n 0, 1) := by decide +kernel
theorem dX5_init_1 : decode cX5_init 1 = .ok (.invokespecial 3, 3) := by decide +kernel
theorem dX5_init_4 : decode cX5_init 4 = .ok (.aload_n 0, 1) := by decide +kernel
theorem dX5_init_5 : decode cX5_init 5 = .ok (.sipush 2604, 3) := by decide +kernel
theorem dX5_init_8 : decode cX5_init 8 = .ok (.newarray .int, 2) := by decide +kernel
theorem dX5_init_10 : decode cX5_init 10 = .ok (.putfield 11, 3) := by decide +kernel
theorem dX5_init_13 : decode cX5_init 13 = .ok (.aload_n 0, 1) := by decide +kernel
theorem dX5_init_14 : decode cX5_init 14 = .ok (.bipush 50, 2) := by decide +kernel
theorem dX5_init_16 : decode cX5_init 16 = .ok (.newarray .int, 2) := by decide +kernel
theorem dX5_init_18 : decode cX5_init 18 = .ok (.putfield 15, 3) := by decide +kernel
theorem dX5_init_21 : decode cX5_init 21 = .ok (.aload_n 0, 1) := by decide +kernel
theorem dX5_init_22 : decode cX5_init 22 = .ok (.iconst 0, 1) := by decide +kernel
theorem dX5_init_23 : decode cX5_init 23 = .ok (.putfield 18, 3) := by decide +kernel
theorem dX5_init_26 : decode cX5_init 26 = .ok (.aload_n 0, 1) := by decide +kernel
theorem dX5_init_27 : decode cX5_init 27 = .ok (.bipush 7, 2) := by decide +kernel
theorem dX5_init_29 : decode cX5_init 29 = .ok (.newarray .long, 2) := by decide +kernel
theorem dX5_init_31 : decode cX5_init 31 = .ok (.putfield 22, 3) := by decide +kernel
theorem dX5_init_34 : decode cX5_init 34 = .ok (.aload_n 0, 1) := by decide +kernel
theorem dX5_init_35 : decode cX5_init 35 = .ok (.lconst 0, 1) := by decide +kernel
theorem dX5_init_36 : decode cX5_init 36 = .ok (.putfield 26, 3) := by decide +kernel
theorem dX5_init_39 : decode cX5_init 39 = .ok (.aload_n 0, 1) := by decide +kernel
theorem dX5_init_40 : decode cX5_init 40 = .ok (.bipush 50, 2) := by decide +kernel
theorem dX5_init_42 : decode cX5_init 42 = .ok (.newarray .long, 2) := by decide +kernel
theorem dX5_init_44 : decode cX5_init 44 = .ok (.putfield 30, 3) := by decide +kernel
theorem dX5_init_47 : decode cX5_init 47 = .ok (.aload_n 0, 1) := by decide +kernel
theorem dX5_init_48 : decode cX5_init 48 = .ok (.bipush 50, 2) := by decide +kernel
theorem dX5_init_50 : decode cX5_init 50 = .ok (.newarray .long, 2) := by decide +kernel
theorem dX5_init_52 : decode cX5_init 52 = .ok (.putfield 33, 3) := by decide +kernel
theorem dX5_init_55 : decode cX5_init 55 = .ok (.aload_n 0, 1) := by decide +kernel
theorem dX5_init_56 : decode cX5_init 56 = .ok (.bipush 50, 2) := by decide +kernel
theorem dX5_init_58 : decode cX5_init 58 = .ok (.newarray .int, 2) := by decide +kernel
theorem dX5_init_60 : decode cX5_init 60 = .ok (.putfield 36, 3) := by decide +kernel
theorem dX5_init_63 : decode cX5_init 63 = .ok (.aload_n 0, 1) := by decide +kernel
theorem dX5_init_64 : decode cX5_init 64 = .ok (.getfield 11, 3) := by decide +kernel
theorem dX5_init_67 : decode cX5_init 67 = .ok (.iconst (-1), 1) := by decide +kernel
theorem dX5_init_68 : decode cX5_init 68 = .ok (.invokestatic 39, 3) := by decide +kernel
theorem dX5_init_71 : decode cX5_init 71 = .ok (.return_, 1) := by decide +kernel
theorem dX5_keyOf_0 : decode cX5_keyOf 0 = .ok (.iload_n 0, 1) := by decide +kernel
theorem dX5_keyOf_1 : decode cX5_keyOf 1 = .ok (.ifCond .lt 9, 3) := by decide +kernel
theorem dX5_keyOf_4 : decode cX5_keyOf 4 = .ok (.iload_n 0, 1) := by decide +kernel
theorem dX5_keyOf_5 : decode cX5_keyOf 5 = .ok (.bipush 6, 2) := by decide +kernel
theorem dX5_keyOf_7 : decode cX5_keyOf 7 = .ok (.if_icmp .le 5, 3) := by decide +kernel
theorem dX5_keyOf_10 : decode cX5_keyOf 10 = .ok (.iconst (-1), 1) := by decide +kernel
theorem dX5_keyOf_11 : decode cX5_keyOf 11 = .ok (.ireturn, 1) := by decide +kernel
theorem dX5_keyOf_12 : decode cX5_keyOf 12 = .ok (.iload_n 0, 1) := by decide +kernel
theorem dX5_keyOf_13 : decode cX5_keyOf 13 = .ok (.iconst 4, 1) := by decide +kernel
theorem dX5_keyOf_14 : decode cX5_keyOf 14 = .ok (.if_icmp .ge 5, 3) := by decide +kernel
theorem dX5_keyOf_17 : decode cX5_keyOf 17 = .ok (.iload_n 0, 1) := by decide +kernel
theorem dX5_keyOf_18 : decode cX5_keyOf 18 = .ok (.ireturn, 1) := by decide +kernel
theorem dX5_keyOf_19 : decode cX5_keyOf 19 = .ok (.iload_n 1, 1) := by decide +kernel
theorem dX5_keyOf_20 : decode cX5_keyOf 20 = .ok (.ifCond .lt 9, 3) := by decide +kernel
theorem dX5_keyOf_23 : decode cX5_keyOf 23 = .ok (.iload_n 1, 1) := by decide +kernel
theorem dX5_keyOf_24 : decode cX5_keyOf 24 = .ok (.bipush 50, 2) := by decide +kernel
theorem dX5_keyOf_26 : decode cX5_keyOf 26 = .ok (.if_icmp .lt 5, 3) := by decide +kernel
theorem dX5_keyOf_29 : decode cX5_keyOf 29 = .ok (.iconst (-1), 1) := by decide +kernel
theorem dX5_keyOf_30 : decode cX5_keyOf 30 = .ok (.ireturn, 1) := by decide +kernel
theorem dX5_keyOf_31 : decode cX5_keyOf 31 = .ok (.iload_n 0, 1) := by decide +kernel
theorem dX5_keyOf_32 : decode cX5_keyOf 32 = .ok (.bipush 6, 2) := by decide +kernel
theorem dX5_keyOf_34 : decode cX5_keyOf 34 = .ok (.if_icmp .ge 14, 3) := by decide +kernel
theorem dX5_keyOf_37 : decode cX5_keyOf 37 = .ok (.iconst 4, 1) := by decide +kernel
theorem dX5_keyOf_38 : decode cX5_keyOf 38 = .ok (.iload_n 0, 1) := by decide +kernel
theorem dX5_keyOf_39 : decode cX5_keyOf 39 = .ok (.iconst 4, 1) := by decide +kernel
theorem dX5_keyOf_40 : decode cX5_keyOf 40 = .ok (.isub, 1) := by decide +kernel
theorem dX5_keyOf_41 : decode cX5_keyOf 41 = .ok (.bipush 50, 2) := by decide +kernel
theorem dX5_keyOf_43 : decode cX5_keyOf 43 = .ok (.imul, 1) := by decide +kernel
theorem dX5_keyOf_44 : decode cX5_keyOf 44 = .ok (.iadd, 1) := by decide +kernel
theorem dX5_keyOf_45 : decode cX5_keyOf 45 = .ok (.iload_n 1, 1) := by decide +kernel
theorem dX5_keyOf_46 : decode cX5_keyOf 46 = .ok (.iadd, 1) := by decide +kernel
theorem dX5_keyOf_47 : decode cX5_keyOf 47 = .ok (.ireturn, 1) := by decide +kernel
theorem dX5_keyOf_48 : decode cX5_keyOf 48 = .ok (.iload_n 2, 1) := by decide +kernel
theorem dX5_keyOf_49 : decode cX5_keyOf 49 = .ok (.ifCond .lt 9, 3) := by decide +kernel
theorem dX5_keyOf_52 : decode cX5_keyOf 52 = .ok (.iload_n 2, 1) := by decide +kernel
theorem dX5_keyOf_53 : decode cX5_keyOf 53 = .ok (.bipush 50, 2) := by decide +kernel
theorem dX5_keyOf_55 : decode cX5_keyOf 55 = .ok (.if_icmp .lt 5, 3) := by decide +kernel
theorem dX5_keyOf_58 : decode cX5_keyOf 58 = .ok (.iconst (-1), 1) := by decide +kernel
theorem dX5_keyOf_59 : decode cX5_keyOf 59 = .ok (.ireturn, 1) := by decide +kernel
theorem dX5_keyOf_60 : decode cX5_keyOf 60 = .ok (.iconst 4, 1) := by decide +kernel
theorem dX5_keyOf_61 : decode cX5_keyOf 61 = .ok (.iconst 2, 1) := by decide +kernel
theorem dX5_keyOf_62 : decode cX5_keyOf 62 = .ok (.iload_n 1, 1) := by decide +kernel
theorem dX5_keyOf_63 : decode cX5_keyOf 63 = .ok (.iadd, 1) := by decide +kernel
theorem dX5_keyOf_64 : decode cX5_keyOf 64 = .ok (.bipush 50, 2) := by decide +kernel
theorem dX5_keyOf_66 : decode cX5_keyOf 66 = .ok (.imul, 1) := by decide +kernel
theorem dX5_keyOf_67 : decode cX5_keyOf 67 = .ok (.iadd, 1) := by decide +kernel
theorem dX5_keyOf_68 : decode cX5_keyOf 68 = .ok (.iload_n 2, 1) := by decide +kernel
theorem dX5_keyOf_69 : decode cX5_keyOf 69 = .ok (.iadd, 1) := by decide +kernel
theorem dX5_keyOf_70 : decode cX5_keyOf 70 = .ok (.ireturn, 1) := by decide +kernel
theorem dX5_settle_0 : decode cX5_settle 0 = .ok (.iconst 1, 1) := by decide +kernel
theorem dX5_settle_1 : decode cX5_settle 1 = .ok (.istore_n 2, 1) := by decide +kernel
theorem dX5_settle_2 : decode cX5_settle 2 = .ok (.iconst 0, 1) := by decide +kernel
theorem dX5_settle_3 : decode cX5_settle 3 = .ok (.istore_n 3, 1) := by decide +kernel
theorem dX5_settle_4 : decode cX5_settle 4 = .ok (.iload_n 2, 1) := by decide +kernel
theorem dX5_settle_5 : decode cX5_settle 5 = .ok (.ifCond .eq 21, 3) := by decide +kernel
theorem dX5_settle_8 : decode cX5_settle 8 = .ok (.iload_n 3, 1) := by decide +kernel
theorem dX5_settle_9 : decode cX5_settle 9 = .ok (.bipush 50, 2) := by decide +kernel
theorem dX5_settle_11 : decode cX5_settle 11 = .ok (.if_icmp .gt 15, 3) := by decide +kernel
theorem dX5_settle_14 : decode cX5_settle 14 = .ok (.aload_n 0, 1) := by decide +kernel
theorem dX5_settle_15 : decode cX5_settle 15 = .ok (.aload_n 1, 1) := by decide +kernel
theorem dX5_settle_16 : decode cX5_settle 16 = .ok (.invokevirtual 45, 3) := by decide +kernel
theorem dX5_settle_19 : decode cX5_settle 19 = .ok (.istore_n 2, 1) := by decide +kernel
theorem dX5_settle_20 : decode cX5_settle 20 = .ok (.iinc 3 1, 3) := by decide +kernel
theorem dX5_settle_23 : decode cX5_settle 23 = .ok (.goto (-19), 3) := by decide +kernel
theorem dX5_settle_26 : decode cX5_settle 26 = .ok (.return_, 1) := by decide +kernel
theorem dX5_sweep_0 : decode cX5_sweep 0 = .ok (.aload_n 0, 1) := by decide +kernel
theorem dX5_sweep_1 : decode cX5_sweep 1 = .ok (.invokevirtual 49, 3) := by decide +kernel
theorem dX5_sweep_4 : decode cX5_sweep 4 = .ok (.iconst 0, 1) := by decide +kernel
theorem dX5_sweep_5 : decode cX5_sweep 5 = .ok (.istore_n 2, 1) := by decide +kernel
theorem dX5_sweep_6 : decode cX5_sweep 6 = .ok (.iconst 0, 1) := by decide +kernel
theorem dX5_sweep_7 : decode cX5_sweep 7 = .ok (.istore_n 3, 1) := by decide +kernel
theorem dX5_sweep_8 : decode cX5_sweep 8 = .ok (.iload_n 3, 1) := by decide +kernel
theorem dX5_sweep_9 : decode cX5_sweep 9 = .ok (.aload_n 1, 1) := by decide +kernel
theorem dX5_sweep_10 : decode cX5_sweep 10 = .ok (.getfield 52, 3) := by decide +kernel
theorem dX5_sweep_13 : decode cX5_sweep 13 = .ok (.if_icmp .ge 91, 3) := by decide +kernel
theorem dX5_sweep_16 : decode cX5_sweep 16 = .ok (.aload_n 1, 1) := by decide +kernel
theorem dX5_sweep_17 : decode cX5_sweep 17 = .ok (.getfield 57, 3) := by decide +kernel
theorem dX5_sweep_20 : decode cX5_sweep 20 = .ok (.iload_n 3, 1) := by decide +kernel
theorem dX5_sweep_21 : decode cX5_sweep 21 = .ok (.iaload, 1) := by decide +kernel
theorem dX5_sweep_22 : decode cX5_sweep 22 = .ok (.aload_n 1, 1) := by decide +kernel
theorem dX5_sweep_23 : decode cX5_sweep 23 = .ok (.aload_n 1, 1) := by decide +kernel
theorem dX5_sweep_24 : decode cX5_sweep 24 = .ok (.getfield 60, 3) := by decide +kernel
theorem dX5_sweep_27 : decode cX5_sweep 27 = .ok (.iload_n 3, 1) := by decide +kernel
theorem dX5_sweep_28 : decode cX5_sweep 28 = .ok (.iaload, 1) := by decide +kernel
theorem dX5_sweep_29 : decode cX5_sweep 29 = .ok (.invokevirtual 63, 3) := by decide +kernel
theorem dX5_sweep_32 : decode cX5_sweep 32 = .ok (.aload_n 1, 1) := by decide +kernel
theorem dX5_sweep_33 : decode cX5_sweep 33 = .ok (.aload_n 1, 1) := by decide +kernel
theorem dX5_sweep_34 : decode cX5_sweep 34 = .ok (.getfield 67, 3) := by decide +kernel
theorem dX5_sweep_37 : decode cX5_sweep 37 = .ok (.iload_n 3, 1) := by decide +kernel
theorem dX5_sweep_38 : decode cX5_sweep 38 = .ok (.iaload, 1) := by decide +kernel
theorem dX5_sweep_39 : decode cX5_sweep 39 = .ok (.invokevirtual 63, 3) := by decide +kernel
theorem dX5_sweep_42 : decode cX5_sweep 42 = .ok (.invokestatic 70, 3) := by decide +kernel
theorem dX5_sweep_45 : decode cX5_sweep 45 = .ok (.istore 4, 2) := by decide +kernel
theorem dX5_sweep_47 : decode cX5_sweep 47 = .ok (.iload 4, 2) := by decide +kernel
theorem dX5_sweep_49 : decode cX5_sweep 49 = .ok (.ifCond .ge 6, 3) := by decide +kernel
theorem dX5_sweep_52 : decode cX5_sweep 52 = .ok (.goto 46, 3) := by decide +kernel
theorem dX5_sweep_55 : decode cX5_sweep 55 = .ok (.aload_n 0, 1) := by decide +kernel
theorem dX5_sweep_56 : decode cX5_sweep 56 = .ok (.getfield 11, 3) := by decide +kernel
theorem dX5_sweep_59 : decode cX5_sweep 59 = .ok (.iload 4, 2) := by decide +kernel
theorem dX5_sweep_61 : decode cX5_sweep 61 = .ok (.iaload, 1) := by decide +kernel
theorem dX5_sweep_62 : decode cX5_sweep 62 = .ok (.iconst (-1), 1) := by decide +kernel
theorem dX5_sweep_63 : decode cX5_sweep 63 = .ok (.if_icmp .ne 18, 3) := by decide +kernel
theorem dX5_sweep_66 : decode cX5_sweep 66 = .ok (.aload_n 0, 1) := by decide +kernel
theorem dX5_sweep_67 : decode cX5_sweep 67 = .ok (.iload 4, 2) := by decide +kernel
theorem dX5_sweep_69 : decode cX5_sweep 69 = .ok (.aload_n 1, 1) := by decide +kernel
theorem dX5_sweep_70 : decode cX5_sweep 70 = .ok (.getfield 74, 3) := by decide +kernel
theorem dX5_sweep_73 : decode cX5_sweep 73 = .ok (.iload_n 3, 1) := by decide +kernel
theorem dX5_sweep_74 : decode cX5_sweep 74 = .ok (.iaload, 1) := by decide +kernel
theorem dX5_sweep_75 : decode cX5_sweep 75 = .ok (.invokevirtual 77, 3) := by decide +kernel
theorem dX5_sweep_78 : decode cX5_sweep 78 = .ok (.goto 20, 3) := by decide +kernel
theorem dX5_sweep_81 : decode cX5_sweep 81 = .ok (.aload_n 1, 1) := by decide +kernel
theorem dX5_sweep_82 : decode cX5_sweep 82 = .ok (.aload_n 0, 1) := by decide +kernel
theorem dX5_sweep_83 : decode cX5_sweep 83 = .ok (.getfield 11, 3) := by decide +kernel
theorem dX5_sweep_86 : decode cX5_sweep 86 = .ok (.iload 4, 2) := by decide +kernel
theorem dX5_sweep_88 : decode cX5_sweep 88 = .ok (.iaload, 1) := by decide +kernel
theorem dX5_sweep_89 : decode cX5_sweep 89 = .ok (.iload_n 3, 1) := by decide +kernel
theorem dX5_sweep_90 : decode cX5_sweep 90 = .ok (.invokevirtual 81, 3) := by decide +kernel
theorem dX5_sweep_93 : decode cX5_sweep 93 = .ok (.ifCond .eq 5, 3) := by decide +kernel
theorem dX5_sweep_96 : decode cX5_sweep 96 = .ok (.iconst 1, 1) := by decide +kernel
theorem dX5_sweep_97 : decode cX5_sweep 97 = .ok (.istore_n 2, 1) := by decide +kernel
theorem dX5_sweep_98 : decode cX5_sweep 98 = .ok (.iinc 3 1, 3) := by decide +kernel
theorem dX5_sweep_101 : decode cX5_sweep 101 = .ok (.goto (-93), 3) := by decide +kernel
theorem dX5_sweep_104 : decode cX5_sweep 104 = .ok (.iload_n 2, 1) := by decide +kernel
theorem dX5_sweep_105 : decode cX5_sweep 105 = .ok (.ireturn, 1) := by decide +kernel
theorem dX5_emptyPlaces_0 : decode cX5_emptyPlaces 0 = .ok (.iconst 0, 1) := by decide +kernel
theorem dX5_emptyPlaces_1 : decode cX5_emptyPlaces 1 = .ok (.istore_n 1, 1) := by decide +kernel
theorem dX5_emptyPlaces_2 : decode cX5_emptyPlaces 2 = .ok (.iload_n 1, 1) := by decide +kernel
theorem dX5_emptyPlaces_3 : decode cX5_emptyPlaces 3 = .ok (.aload_n 0, 1) := by decide +kernel
theorem dX5_emptyPlaces_4 : decode cX5_emptyPlaces 4 = .ok (.getfield 18, 3) := by decide +kernel
theorem dX5_emptyPlaces_7 : decode cX5_emptyPlaces 7 = .ok (.if_icmp .ge 21, 3) := by decide +kernel
theorem dX5_emptyPlaces_10 : decode cX5_emptyPlaces 10 = .ok (.aload_n 0, 1) := by decide +kernel
theorem dX5_emptyPlaces_11 : decode cX5_emptyPlaces 11 = .ok (.getfield 11, 3) := by decide +kernel
theorem dX5_emptyPlaces_14 : decode cX5_emptyPlaces 14 = .ok (.aload_n 0, 1) := by decide +kernel
theorem dX5_emptyPlaces_15 : decode cX5_emptyPlaces 15 = .ok (.getfield 15, 3) := by decide +kernel
theorem dX5_emptyPlaces_18 : decode cX5_emptyPlaces 18 = .ok (.iload_n 1, 1) := by decide +kernel
theorem dX5_emptyPlaces_19 : decode cX5_emptyPlaces 19 = .ok (.iaload, 1) := by decide +kernel
theorem dX5_emptyPlaces_20 : decode cX5_emptyPlaces 20 = .ok (.iconst (-1), 1) := by decide +kernel
theorem dX5_emptyPlaces_21 : decode cX5_emptyPlaces 21 = .ok (.iastore, 1) := by decide +kernel
theorem dX5_emptyPlaces_22 : decode cX5_emptyPlaces 22 = .ok (.iinc 1 1, 3) := by decide +kernel
theorem dX5_emptyPlaces_25 : decode cX5_emptyPlaces 25 = .ok (.goto (-23), 3) := by decide +kernel
theorem dX5_emptyPlaces_28 : decode cX5_emptyPlaces 28 = .ok (.aload_n 0, 1) := by decide +kernel
theorem dX5_emptyPlaces_29 : decode cX5_emptyPlaces 29 = .ok (.iconst 0, 1) := by decide +kernel
theorem dX5_emptyPlaces_30 : decode cX5_emptyPlaces 30 = .ok (.putfield 18, 3) := by decide +kernel
theorem dX5_emptyPlaces_33 : decode cX5_emptyPlaces 33 = .ok (.return_, 1) := by decide +kernel
theorem dX5_tellPlace_0 : decode cX5_tellPlace 0 = .ok (.aload_n 0, 1) := by decide +kernel
theorem dX5_tellPlace_1 : decode cX5_tellPlace 1 = .ok (.getfield 18, 3) := by decide +kernel
theorem dX5_tellPlace_4 : decode cX5_tellPlace 4 = .ok (.bipush 50, 2) := by decide +kernel
theorem dX5_tellPlace_6 : decode cX5_tellPlace 6 = .ok (.if_icmp .ge 30, 3) := by decide +kernel
theorem dX5_tellPlace_9 : decode cX5_tellPlace 9 = .ok (.aload_n 0, 1) := by decide +kernel
theorem dX5_tellPlace_10 : decode cX5_tellPlace 10 = .ok (.getfield 11, 3) := by decide +kernel
theorem dX5_tellPlace_13 : decode cX5_tellPlace 13 = .ok (.iload_n 1, 1) := by decide +kernel
theorem dX5_tellPlace_14 : decode cX5_tellPlace 14 = .ok (.iload_n 2, 1) := by decide +kernel
theorem dX5_tellPlace_15 : decode cX5_tellPlace 15 = .ok (.iastore, 1) := by decide +kernel
theorem dX5_tellPlace_16 : decode cX5_tellPlace 16 = .ok (.aload_n 0, 1) := by decide +kernel
theorem dX5_tellPlace_17 : decode cX5_tellPlace 17 = .ok (.getfield 15, 3) := by decide +kernel
theorem dX5_tellPlace_20 : decode cX5_tellPlace 20 = .ok (.aload_n 0, 1) := by decide +kernel
theorem dX5_tellPlace_21 : decode cX5_tellPlace 21 = .ok (.getfield 18, 3) := by decide +kernel
theorem dX5_tellPlace_24 : decode cX5_tellPlace 24 = .ok (.iload_n 1, 1) := by decide +kernel
theorem dX5_tellPlace_25 : decode cX5_tellPlace 25 = .ok (.iastore, 1) := by decide +kernel
theorem dX5_tellPlace_26 : decode cX5_tellPlace 26 = .ok (.aload_n 0, 1) := by decide +kernel
theorem dX5_tellPlace_27 : decode cX5_tellPlace 27 = .ok (.dup, 1) := by decide +kernel
theorem dX5_tellPlace_28 : decode cX5_tellPlace 28 = .ok (.getfield 18, 3) := by decide +kernel
theorem dX5_tellPlace_31 : decode cX5_tellPlace 31 = .ok (.iconst 1, 1) := by decide +kernel
theorem dX5_tellPlace_32 : decode cX5_tellPlace 32 = .ok (.iadd, 1) := by decide +kernel
theorem dX5_tellPlace_33 : decode cX5_tellPlace 33 = .ok (.putfield 18, 3) := by decide +kernel
theorem dX5_tellPlace_36 : decode cX5_tellPlace 36 = .ok (.return_, 1) := by decide +kernel
theorem dX5_markParts_0 : decode cX5_markParts 0 = .ok (.aload_n 0, 1) := by decide +kernel
theorem dX5_markParts_1 : decode cX5_markParts 1 = .ok (.getfield 22, 3) := by decide +kernel
theorem dX5_markParts_4 : decode cX5_markParts 4 = .ok (.lconst 0, 1) := by decide +kernel
theorem dX5_markParts_5 : decode cX5_markParts 5 = .ok (.invokestatic 85, 3) := by decide +kernel
theorem dX5_markParts_8 : decode cX5_markParts 8 = .ok (.aload_n 0, 1) := by decide +kernel
theorem dX5_markParts_9 : decode cX5_markParts 9 = .ok (.getfield 30, 3) := by decide +kernel
theorem dX5_markParts_12 : decode cX5_markParts 12 = .ok (.lconst 0, 1) := by decide +kernel
theorem dX5_markParts_13 : decode cX5_markParts 13 = .ok (.invokestatic 85, 3) := by decide +kernel
theorem dX5_markParts_16 : decode cX5_markParts 16 = .ok (.aload_n 0, 1) := by decide +kernel
theorem dX5_markParts_17 : decode cX5_markParts 17 = .ok (.getfield 33, 3) := by decide +kernel
theorem dX5_markParts_20 : decode cX5_markParts 20 = .ok (.lconst 0, 1) := by decide +kernel
theorem dX5_markParts_21 : decode cX5_markParts 21 = .ok (.invokestatic 85, 3) := by decide +kernel
theorem dX5_markParts_24 : decode cX5_markParts 24 = .ok (.aload_n 0, 1) := by decide +kernel
theorem dX5_markParts_25 : decode cX5_markParts 25 = .ok (.lconst 0, 1) := by decide +kernel
theorem dX5_markParts_26 : decode cX5_markParts 26 = .ok (.putfield 26, 3) := by decide +kernel
theorem dX5_markParts_29 : decode cX5_markParts 29 = .ok (.iconst 0, 1) := by decide +kernel
theorem dX5_markParts_30 : decode cX5_markParts 30 = .ok (.istore_n 2, 1) := by decide +kernel
theorem dX5_markParts_31 : decode cX5_markParts 31 = .ok (.iload_n 2, 1) := by decide +kernel
theorem dX5_markParts_32 : decode cX5_markParts 32 = .ok (.aload_n 1, 1) := by decide +kernel
theorem dX5_markParts_33 : decode cX5_markParts 33 = .ok (.getfield 52, 3) := by decide +kernel
theorem dX5_markParts_36 : decode cX5_markParts 36 = .ok (.if_icmp .ge 117, 3) := by decide +kernel
theorem dX5_markParts_39 : decode cX5_markParts 39 = .ok (.aload_n 1, 1) := by decide +kernel
theorem dX5_markParts_40 : decode cX5_markParts 40 = .ok (.aload_n 1, 1) := by decide +kernel
theorem dX5_markParts_41 : decode cX5_markParts 41 = .ok (.getfield 60, 3) := by decide +kernel
theorem dX5_markParts_44 : decode cX5_markParts 44 = .ok (.iload_n 2, 1) := by decide +kernel
theorem dX5_markParts_45 : decode cX5_markParts 45 = .ok (.iaload, 1) := by decide +kernel
theorem dX5_markParts_46 : decode cX5_markParts 46 = .ok (.invokevirtual 63, 3) := by decide +kernel
theorem dX5_markParts_49 : decode cX5_markParts 49 = .ok (.istore_n 3, 1) := by decide +kernel
theorem dX5_markParts_50 : decode cX5_markParts 50 = .ok (.aload_n 1, 1) := by decide +kernel
theorem dX5_markParts_51 : decode cX5_markParts 51 = .ok (.aload_n 1, 1) := by decide +kernel
theorem dX5_markParts_52 : decode cX5_markParts 52 = .ok (.getfield 67, 3) := by decide +kernel
theorem dX5_markParts_55 : decode cX5_markParts 55 = .ok (.iload_n 2, 1) := by decide +kernel
theorem dX5_markParts_56 : decode cX5_markParts 56 = .ok (.iaload, 1) := by decide +kernel
theorem dX5_markParts_57 : decode cX5_markParts 57 = .ok (.invokevirtual 63, 3) := by decide +kernel
theorem dX5_markParts_60 : decode cX5_markParts 60 = .ok (.istore 4, 2) := by decide +kernel
theorem dX5_markParts_62 : decode cX5_markParts 62 = .ok (.aload_n 1, 1) := by decide +kernel
theorem dX5_markParts_63 : decode cX5_markParts 63 = .ok (.getfield 57, 3) := by decide +kernel
theorem dX5_markParts_66 : decode cX5_markParts 66 = .ok (.iload_n 2, 1) := by decide +kernel
theorem dX5_markParts_67 : decode cX5_markParts 67 = .ok (.iaload, 1) := by decide +kernel
theorem dX5_markParts_68 : decode cX5_markParts 68 = .ok (.istore 5, 2) := by decide +kernel
theorem dX5_markParts_70 : decode cX5_markParts 70 = .ok (.iload_n 3, 1) := by decide +kernel
theorem dX5_markParts_71 : decode cX5_markParts 71 = .ok (.ifCond .lt 28, 3) := by decide +kernel
theorem dX5_markParts_74 : decode cX5_markParts 74 = .ok (.iload 5, 2) := by decide +kernel
theorem dX5_markParts_76 : decode cX5_markParts 76 = .ok (.ifCond .lt 23, 3) := by decide +kernel
theorem dX5_markParts_79 : decode cX5_markParts 79 = .ok (.iload 5, 2) := by decide +kernel
theorem dX5_markParts_81 : decode cX5_markParts 81 = .ok (.bipush 7, 2) := by decide +kernel
theorem dX5_markParts_83 : decode cX5_markParts 83 = .ok (.if_icmp .ge 16, 3) := by decide +kernel
theorem dX5_markParts_86 : decode cX5_markParts 86 = .ok (.aload_n 0, 1) := by decide +kernel
theorem dX5_markParts_87 : decode cX5_markParts 87 = .ok (.getfield 22, 3) := by decide +kernel
theorem dX5_markParts_90 : decode cX5_markParts 90 = .ok (.iload 5, 2) := by decide +kernel
theorem dX5_markParts_92 : decode cX5_markParts 92 = .ok (.dup2, 1) := by decide +kernel
theorem dX5_markParts_93 : decode cX5_markParts 93 = .ok (.laload, 1) := by decide +kernel
theorem dX5_markParts_94 : decode cX5_markParts 94 = .ok (.lconst 1, 1) := by decide +kernel
theorem dX5_markParts_95 : decode cX5_markParts 95 = .ok (.iload_n 3, 1) := by decide +kernel
theorem dX5_markParts_96 : decode cX5_markParts 96 = .ok (.lshl, 1) := by decide +kernel
theorem dX5_markParts_97 : decode cX5_markParts 97 = .ok (.lor, 1) := by decide +kernel
theorem dX5_markParts_98 : decode cX5_markParts 98 = .ok (.lastore, 1) := by decide +kernel
theorem dX5_markParts_99 : decode cX5_markParts 99 = .ok (.iload_n 3, 1) := by decide +kernel
theorem dX5_markParts_100 : decode cX5_markParts 100 = .ok (.ifCond .lt 47, 3) := by decide +kernel
theorem dX5_markParts_103 : decode cX5_markParts 103 = .ok (.iload 4, 2) := by decide +kernel
theorem dX5_markParts_105 : decode cX5_markParts 105 = .ok (.ifCond .lt 42, 3) := by decide +kernel
theorem dX5_markParts_108 : decode cX5_markParts 108 = .ok (.aload_n 0, 1) := by decide +kernel
theorem dX5_markParts_109 : decode cX5_markParts 109 = .ok (.dup, 1) := by decide +kernel
theorem dX5_markParts_110 : decode cX5_markParts 110 = .ok (.getfield 26, 3) := by decide +kernel
theorem dX5_markParts_113 : decode cX5_markParts 113 = .ok (.lconst 1, 1) := by decide +kernel
theorem dX5_markParts_114 : decode cX5_markParts 114 = .ok (.iload 4, 2) := by decide +kernel
theorem dX5_markParts_116 : decode cX5_markParts 116 = .ok (.lshl, 1) := by decide +kernel
theorem dX5_markParts_117 : decode cX5_markParts 117 = .ok (.lor, 1) := by decide +kernel
theorem dX5_markParts_118 : decode cX5_markParts 118 = .ok (.putfield 26, 3) := by decide +kernel
theorem dX5_markParts_121 : decode cX5_markParts 121 = .ok (.aload_n 0, 1) := by decide +kernel
theorem dX5_markParts_122 : decode cX5_markParts 122 = .ok (.getfield 30, 3) := by decide +kernel
theorem dX5_markParts_125 : decode cX5_markParts 125 = .ok (.iload 4, 2) := by decide +kernel
theorem dX5_markParts_127 : decode cX5_markParts 127 = .ok (.dup2, 1) := by decide +kernel
theorem dX5_markParts_128 : decode cX5_markParts 128 = .ok (.laload, 1) := by decide +kernel
theorem dX5_markParts_129 : decode cX5_markParts 129 = .ok (.lconst 1, 1) := by decide +kernel
theorem dX5_markParts_130 : decode cX5_markParts 130 = .ok (.iload_n 3, 1) := by decide +kernel
theorem dX5_markParts_131 : decode cX5_markParts 131 = .ok (.lshl, 1) := by decide +kernel
theorem dX5_markParts_132 : decode cX5_markParts 132 = .ok (.lor, 1) := by decide +kernel
theorem dX5_markParts_133 : decode cX5_markParts 133 = .ok (.lastore, 1) := by decide +kernel
theorem dX5_markParts_134 : decode cX5_markParts 134 = .ok (.aload_n 0, 1) := by decide +kernel
theorem dX5_markParts_135 : decode cX5_markParts 135 = .ok (.getfield 33, 3) := by decide +kernel
theorem dX5_markParts_138 : decode cX5_markParts 138 = .ok (.iload_n 3, 1) := by decide +kernel
theorem dX5_markParts_139 : decode cX5_markParts 139 = .ok (.dup2, 1) := by decide +kernel
theorem dX5_markParts_140 : decode cX5_markParts 140 = .ok (.laload, 1) := by decide +kernel
theorem dX5_markParts_141 : decode cX5_markParts 141 = .ok (.lconst 1, 1) := by decide +kernel
theorem dX5_markParts_142 : decode cX5_markParts 142 = .ok (.iload 4, 2) := by decide +kernel
theorem dX5_markParts_144 : decode cX5_markParts 144 = .ok (.lshl, 1) := by decide +kernel
theorem dX5_markParts_145 : decode cX5_markParts 145 = .ok (.lor, 1) := by decide +kernel
theorem dX5_markParts_146 : decode cX5_markParts 146 = .ok (.lastore, 1) := by decide +kernel
theorem dX5_markParts_147 : decode cX5_markParts 147 = .ok (.iinc 2 1, 3) := by decide +kernel
theorem dX5_markParts_150 : decode cX5_markParts 150 = .ok (.goto (-119), 3) := by decide +kernel
theorem dX5_markParts_153 : decode cX5_markParts 153 = .ok (.return_, 1) := by decide +kernel
theorem dX5_firstsFor_0 : decode cX5_firstsFor 0 = .ok (.iload_n 2, 1) := by decide +kernel
theorem dX5_firstsFor_1 : decode cX5_firstsFor 1 = .ok (.ifCond .lt 16, 3) := by decide +kernel
theorem dX5_firstsFor_4 : decode cX5_firstsFor 4 = .ok (.iload_n 2, 1) := by decide +kernel
theorem dX5_firstsFor_5 : decode cX5_firstsFor 5 = .ok (.bipush 50, 2) := by decide +kernel
theorem dX5_firstsFor_7 : decode cX5_firstsFor 7 = .ok (.if_icmp .ge 10, 3) := by decide +kernel
theorem dX5_firstsFor_10 : decode cX5_firstsFor 10 = .ok (.aload_n 0, 1) := by decide +kernel
theorem dX5_firstsFor_11 : decode cX5_firstsFor 11 = .ok (.getfield 30, 3) := by decide +kernel
theorem dX5_firstsFor_14 : decode cX5_firstsFor 14 = .ok (.iload_n 2, 1) := by decide +kernel
theorem dX5_firstsFor_15 : decode cX5_firstsFor 15 = .ok (.laload, 1) := by decide +kernel
theorem dX5_firstsFor_16 : decode cX5_firstsFor 16 = .ok (.lreturn, 1) := by decide +kernel
theorem dX5_firstsFor_17 : decode cX5_firstsFor 17 = .ok (.iload_n 1, 1) := by decide +kernel
theorem dX5_firstsFor_18 : decode cX5_firstsFor 18 = .ok (.ifCond .lt 18, 3) := by decide +kernel
theorem dX5_firstsFor_21 : decode cX5_firstsFor 21 = .ok (.iload_n 1, 1) := by decide +kernel
theorem dX5_firstsFor_22 : decode cX5_firstsFor 22 = .ok (.bipush 7, 2) := by decide +kernel
theorem dX5_firstsFor_24 : decode cX5_firstsFor 24 = .ok (.if_icmp .ge 12, 3) := by decide +kernel
theorem dX5_firstsFor_27 : decode cX5_firstsFor 27 = .ok (.aload_n 0, 1) := by decide +kernel
theorem dX5_firstsFor_28 : decode cX5_firstsFor 28 = .ok (.getfield 22, 3) := by decide +kernel
theorem dX5_firstsFor_31 : decode cX5_firstsFor 31 = .ok (.iload_n 1, 1) := by decide +kernel
theorem dX5_firstsFor_32 : decode cX5_firstsFor 32 = .ok (.laload, 1) := by decide +kernel
theorem dX5_firstsFor_33 : decode cX5_firstsFor 33 = .ok (.goto 4, 3) := by decide +kernel
theorem dX5_firstsFor_36 : decode cX5_firstsFor 36 = .ok (.lconst 0, 1) := by decide +kernel
theorem dX5_firstsFor_37 : decode cX5_firstsFor 37 = .ok (.lreturn, 1) := by decide +kernel
theorem dX5_secondsFor_0 : decode cX5_secondsFor 0 = .ok (.iload_n 1, 1) := by decide +kernel
theorem dX5_secondsFor_1 : decode cX5_secondsFor 1 = .ok (.ifCond .lt 18, 3) := by decide +kernel
theorem dX5_secondsFor_4 : decode cX5_secondsFor 4 = .ok (.iload_n 1, 1) := by decide +kernel
theorem dX5_secondsFor_5 : decode cX5_secondsFor 5 = .ok (.bipush 50, 2) := by decide +kernel
theorem dX5_secondsFor_7 : decode cX5_secondsFor 7 = .ok (.if_icmp .ge 12, 3) := by decide +kernel
theorem dX5_secondsFor_10 : decode cX5_secondsFor 10 = .ok (.aload_n 0, 1) := by decide +kernel
theorem dX5_secondsFor_11 : decode cX5_secondsFor 11 = .ok (.getfield 33, 3) := by decide +kernel
theorem dX5_secondsFor_14 : decode cX5_secondsFor 14 = .ok (.iload_n 1, 1) := by decide +kernel
theorem dX5_secondsFor_15 : decode cX5_secondsFor 15 = .ok (.laload, 1) := by decide +kernel
theorem dX5_secondsFor_16 : decode cX5_secondsFor 16 = .ok (.goto 7, 3) := by decide +kernel
theorem dX5_secondsFor_19 : decode cX5_secondsFor 19 = .ok (.aload_n 0, 1) := by decide +kernel
theorem dX5_secondsFor_20 : decode cX5_secondsFor 20 = .ok (.getfield 26, 3) := by decide +kernel
theorem dX5_secondsFor_23 : decode cX5_secondsFor 23 = .ok (.lreturn, 1) := by decide +kernel
theorem dX5_fewestSigns_0 : decode cX5_fewestSigns 0 = .ok (.aload_n 0, 1) := by decide +kernel
theorem dX5_fewestSigns_1 : decode cX5_fewestSigns 1 = .ok (.getfield 36, 3) := by decide +kernel
theorem dX5_fewestSigns_4 : decode cX5_fewestSigns 4 = .ok (.ldc 88, 2) := by decide +kernel
theorem dX5_fewestSigns_6 : decode cX5_fewestSigns 6 = .ok (.invokestatic 39, 3) := by decide +kernel
theorem dX5_fewestSigns_9 : decode cX5_fewestSigns 9 = .ok (.iconst 1, 1) := by decide +kernel
theorem dX5_fewestSigns_10 : decode cX5_fewestSigns 10 = .ok (.istore_n 3, 1) := by decide +kernel
theorem dX5_fewestSigns_11 : decode cX5_fewestSigns 11 = .ok (.iconst 0, 1) := by decide +kernel
theorem dX5_fewestSigns_12 : decode cX5_fewestSigns 12 = .ok (.istore 4, 2) := by decide +kernel
theorem dX5_fewestSigns_14 : decode cX5_fewestSigns 14 = .ok (.iload_n 3, 1) := by decide +kernel
theorem dX5_fewestSigns_15 : decode cX5_fewestSigns 15 = .ok (.ifCond .eq 102, 3) := by decide +kernel
theorem dX5_fewestSigns_18 : decode cX5_fewestSigns 18 = .ok (.iload 4, 2) := by decide +kernel
theorem dX5_fewestSigns_20 : decode cX5_fewestSigns 20 = .ok (.bipush 50, 2) := by decide +kernel
theorem dX5_fewestSigns_22 : decode cX5_fewestSigns 22 = .ok (.if_icmp .gt 95, 3) := by decide +kernel
theorem dX5_fewestSigns_25 : decode cX5_fewestSigns 25 = .ok (.iconst 0, 1) := by decide +kernel
theorem dX5_fewestSigns_26 : decode cX5_fewestSigns 26 = .ok (.istore_n 3, 1) := by decide +kernel
theorem dX5_fewestSigns_27 : decode cX5_fewestSigns 27 = .ok (.iconst 0, 1) := by decide +kernel
theorem dX5_fewestSigns_28 : decode cX5_fewestSigns 28 = .ok (.istore 5, 2) := by decide +kernel
theorem dX5_fewestSigns_30 : decode cX5_fewestSigns 30 = .ok (.iload 5, 2) := by decide +kernel
theorem dX5_fewestSigns_32 : decode cX5_fewestSigns 32 = .ok (.aload_n 1, 1) := by decide +kernel
theorem dX5_fewestSigns_33 : decode cX5_fewestSigns 33 = .ok (.getfield 52, 3) := by decide +kernel
theorem dX5_fewestSigns_36 : decode cX5_fewestSigns 36 = .ok (.if_icmp .ge 75, 3) := by decide +kernel
theorem dX5_fewestSigns_39 : decode cX5_fewestSigns 39 = .ok (.iconst 1, 1) := by decide +kernel
theorem dX5_fewestSigns_40 : decode cX5_fewestSigns 40 = .ok (.aload_n 0, 1) := by decide +kernel
theorem dX5_fewestSigns_41 : decode cX5_fewestSigns 41 = .ok (.aload_n 1, 1) := by decide +kernel
theorem dX5_fewestSigns_42 : decode cX5_fewestSigns 42 = .ok (.aload_n 1, 1) := by decide +kernel
theorem dX5_fewestSigns_43 : decode cX5_fewestSigns 43 = .ok (.getfield 60, 3) := by decide +kernel
theorem dX5_fewestSigns_46 : decode cX5_fewestSigns 46 = .ok (.iload 5, 2) := by decide +kernel
theorem dX5_fewestSigns_48 : decode cX5_fewestSigns 48 = .ok (.iaload, 1) := by decide +kernel
theorem dX5_fewestSigns_49 : decode cX5_fewestSigns 49 = .ok (.invokevirtual 63, 3) := by decide +kernel
theorem dX5_fewestSigns_52 : decode cX5_fewestSigns 52 = .ok (.invokevirtual 89, 3) := by decide +kernel
theorem dX5_fewestSigns_55 : decode cX5_fewestSigns 55 = .ok (.iadd, 1) := by decide +kernel
theorem dX5_fewestSigns_56 : decode cX5_fewestSigns 56 = .ok (.aload_n 0, 1) := by decide +kernel
theorem dX5_fewestSigns_57 : decode cX5_fewestSigns 57 = .ok (.aload_n 1, 1) := by decide +kernel
theorem dX5_fewestSigns_58 : decode cX5_fewestSigns 58 = .ok (.aload_n 1, 1) := by decide +kernel
theorem dX5_fewestSigns_59 : decode cX5_fewestSigns 59 = .ok (.getfield 67, 3) := by decide +kernel
theorem dX5_fewestSigns_62 : decode cX5_fewestSigns 62 = .ok (.iload 5, 2) := by decide +kernel
theorem dX5_fewestSigns_64 : decode cX5_fewestSigns 64 = .ok (.iaload, 1) := by decide +kernel
theorem dX5_fewestSigns_65 : decode cX5_fewestSigns 65 = .ok (.invokevirtual 63, 3) := by decide +kernel
theorem dX5_fewestSigns_68 : decode cX5_fewestSigns 68 = .ok (.invokevirtual 89, 3) := by decide +kernel
theorem dX5_fewestSigns_71 : decode cX5_fewestSigns 71 = .ok (.iadd, 1) := by decide +kernel
theorem dX5_fewestSigns_72 : decode cX5_fewestSigns 72 = .ok (.istore 6, 2) := by decide +kernel
theorem dX5_fewestSigns_74 : decode cX5_fewestSigns 74 = .ok (.aload_n 1, 1) := by decide +kernel
theorem dX5_fewestSigns_75 : decode cX5_fewestSigns 75 = .ok (.getfield 74, 3) := by decide +kernel
theorem dX5_fewestSigns_78 : decode cX5_fewestSigns 78 = .ok (.iload 5, 2) := by decide +kernel
theorem dX5_fewestSigns_80 : decode cX5_fewestSigns 80 = .ok (.iaload, 1) := by decide +kernel
theorem dX5_fewestSigns_81 : decode cX5_fewestSigns 81 = .ok (.istore 7, 2) := by decide +kernel
theorem dX5_fewestSigns_83 : decode cX5_fewestSigns 83 = .ok (.iload 6, 2) := by decide +kernel
theorem dX5_fewestSigns_85 : decode cX5_fewestSigns 85 = .ok (.aload_n 0, 1) := by decide +kernel
theorem dX5_fewestSigns_86 : decode cX5_fewestSigns 86 = .ok (.iload 7, 2) := by decide +kernel
theorem dX5_fewestSigns_88 : decode cX5_fewestSigns 88 = .ok (.invokevirtual 89, 3) := by decide +kernel
theorem dX5_fewestSigns_91 : decode cX5_fewestSigns 91 = .ok (.if_icmp .ge 14, 3) := by decide +kernel
theorem dX5_fewestSigns_94 : decode cX5_fewestSigns 94 = .ok (.aload_n 0, 1) := by decide +kernel
theorem dX5_fewestSigns_95 : decode cX5_fewestSigns 95 = .ok (.getfield 36, 3) := by decide +kernel
theorem dX5_fewestSigns_98 : decode cX5_fewestSigns 98 = .ok (.iload 7, 2) := by decide +kernel
theorem dX5_fewestSigns_100 : decode cX5_fewestSigns 100 = .ok (.iload 6, 2) := by decide +kernel
theorem dX5_fewestSigns_102 : decode cX5_fewestSigns 102 = .ok (.iastore, 1) := by decide +kernel
theorem dX5_fewestSigns_103 : decode cX5_fewestSigns 103 = .ok (.iconst 1, 1) := by decide +kernel
theorem dX5_fewestSigns_104 : decode cX5_fewestSigns 104 = .ok (.istore_n 3, 1) := by decide +kernel
theorem dX5_fewestSigns_105 : decode cX5_fewestSigns 105 = .ok (.iinc 5 1, 3) := by decide +kernel
theorem dX5_fewestSigns_108 : decode cX5_fewestSigns 108 = .ok (.goto (-78), 3) := by decide +kernel
theorem dX5_fewestSigns_111 : decode cX5_fewestSigns 111 = .ok (.iinc 4 1, 3) := by decide +kernel
theorem dX5_fewestSigns_114 : decode cX5_fewestSigns 114 = .ok (.goto (-100), 3) := by decide +kernel
theorem dX5_fewestSigns_117 : decode cX5_fewestSigns 117 = .ok (.aload_n 0, 1) := by decide +kernel
theorem dX5_fewestSigns_118 : decode cX5_fewestSigns 118 = .ok (.iload_n 2, 1) := by decide +kernel
theorem dX5_fewestSigns_119 : decode cX5_fewestSigns 119 = .ok (.invokevirtual 89, 3) := by decide +kernel
theorem dX5_fewestSigns_122 : decode cX5_fewestSigns 122 = .ok (.ireturn, 1) := by decide +kernel
theorem dX5_fewestOf_0 : decode cX5_fewestOf 0 = .ok (.iload_n 1, 1) := by decide +kernel
theorem dX5_fewestOf_1 : decode cX5_fewestOf 1 = .ok (.ifCond .lt 18, 3) := by decide +kernel
theorem dX5_fewestOf_4 : decode cX5_fewestOf 4 = .ok (.iload_n 1, 1) := by decide +kernel
theorem dX5_fewestOf_5 : decode cX5_fewestOf 5 = .ok (.bipush 50, 2) := by decide +kernel
theorem dX5_fewestOf_7 : decode cX5_fewestOf 7 = .ok (.if_icmp .ge 12, 3) := by decide +kernel
theorem dX5_fewestOf_10 : decode cX5_fewestOf 10 = .ok (.aload_n 0, 1) := by decide +kernel
theorem dX5_fewestOf_11 : decode cX5_fewestOf 11 = .ok (.getfield 36, 3) := by decide +kernel
theorem dX5_fewestOf_14 : decode cX5_fewestOf 14 = .ok (.iload_n 1, 1) := by decide +kernel
theorem dX5_fewestOf_15 : decode cX5_fewestOf 15 = .ok (.iaload, 1) := by decide +kernel
theorem dX5_fewestOf_16 : decode cX5_fewestOf 16 = .ok (.goto 4, 3) := by decide +kernel
theorem dX5_fewestOf_19 : decode cX5_fewestOf 19 = .ok (.iconst 0, 1) := by decide +kernel
theorem dX5_fewestOf_20 : decode cX5_fewestOf 20 = .ok (.ireturn, 1) := by decide +kernel
theorem dX6_init_0 : decode cX6_init 0 = .ok (.aload_n 0, 1) := by decide +kernel
theorem dX6_init_1 : decode cX6_init 1 = .ok (.invokespecial 3, 3) := by decide +kernel
theorem dX6_init_4 : decode cX6_init 4 = .ok (.aload_n 0, 1) := by decide +kernel
theorem dX6_init_5 : decode cX6_init 5 = .ok (.new 9, 3) := by decide +kernel
theorem dX6_init_8 : decode cX6_init 8 = .ok (.dup, 1) := by decide +kernel
theorem dX6_init_9 : decode cX6_init 9 = .ok (.invokespecial 11, 3) := by decide +kernel
theorem dX6_init_12 : decode cX6_init 12 = .ok (.putfield 12, 3) := by decide +kernel
theorem dX6_init_15 : decode cX6_init 15 = .ok (.aload_n 0, 1) := by decide +kernel
theorem dX6_init_16 : decode cX6_init 16 = .ok (.bipush 6, 2) := by decide +kernel
theorem dX6_init_18 : decode cX6_init 18 = .ok (.anewarray 18, 3) := by decide +kernel
theorem dX6_init_21 : decode cX6_init 21 = .ok (.putfield 20, 3) := by decide +kernel
theorem dX6_init_24 : decode cX6_init 24 = .ok (.aload_n 0, 1) := by decide +kernel
theorem dX6_init_25 : decode cX6_init 25 = .ok (.iconst 0, 1) := by decide +kernel
theorem dX6_init_26 : decode cX6_init 26 = .ok (.putfield 24, 3) := by decide +kernel
theorem dX6_init_29 : decode cX6_init 29 = .ok (.aload_n 0, 1) := by decide +kernel
theorem dX6_init_30 : decode cX6_init 30 = .ok (.new 18, 3) := by decide +kernel
theorem dX6_init_33 : decode cX6_init 33 = .ok (.dup, 1) := by decide +kernel
theorem dX6_init_34 : decode cX6_init 34 = .ok (.iconst 0, 1) := by decide +kernel
theorem dX6_init_35 : decode cX6_init 35 = .ok (.invokespecial 28, 3) := by decide +kernel
theorem dX6_init_38 : decode cX6_init 38 = .ok (.putfield 31, 3) := by decide +kernel
theorem dX6_init_41 : decode cX6_init 41 = .ok (.iconst 0, 1) := by decide +kernel
theorem dX6_init_42 : decode cX6_init 42 = .ok (.istore_n 1, 1) := by decide +kernel
theorem dX6_init_43 : decode cX6_init 43 = .ok (.iload_n 1, 1) := by decide +kernel
theorem dX6_init_44 : decode cX6_init 44 = .ok (.bipush 6, 2) := by decide +kernel
theorem dX6_init_46 : decode cX6_init 46 = .ok (.if_icmp .ge 19, 3) := by decide +kernel
theorem dX6_init_49 : decode cX6_init 49 = .ok (.aload_n 0, 1) := by decide +kernel
theorem dX6_init_50 : decode cX6_init 50 = .ok (.getfield 20, 3) := by decide +kernel
theorem dX6_init_53 : decode cX6_init 53 = .ok (.iload_n 1, 1) := by decide +kernel
theorem dX6_init_54 : decode cX6_init 54 = .ok (.aload_n 0, 1) := by decide +kernel
theorem dX6_init_55 : decode cX6_init 55 = .ok (.getfield 31, 3) := by decide +kernel
theorem dX6_init_58 : decode cX6_init 58 = .ok (.aastore, 1) := by decide +kernel
theorem dX6_init_59 : decode cX6_init 59 = .ok (.iinc 1 1, 3) := by decide +kernel
theorem dX6_init_62 : decode cX6_init 62 = .ok (.goto (-19), 3) := by decide +kernel
theorem dX6_init_65 : decode cX6_init 65 = .ok (.return_, 1) := by decide +kernel
theorem dX6_copyFrom_0 : decode cX6_copyFrom 0 = .ok (.aload_n 0, 1) := by decide +kernel
theorem dX6_copyFrom_1 : decode cX6_copyFrom 1 = .ok (.getfield 12, 3) := by decide +kernel
theorem dX6_copyFrom_4 : decode cX6_copyFrom 4 = .ok (.aload_n 1, 1) := by decide +kernel
theorem dX6_copyFrom_5 : decode cX6_copyFrom 5 = .ok (.getfield 12, 3) := by decide +kernel
theorem dX6_copyFrom_8 : decode cX6_copyFrom 8 = .ok (.invokevirtual 35, 3) := by decide +kernel
theorem dX6_copyFrom_11 : decode cX6_copyFrom 11 = .ok (.aload_n 0, 1) := by decide +kernel
theorem dX6_copyFrom_12 : decode cX6_copyFrom 12 = .ok (.aload_n 1, 1) := by decide +kernel
theorem dX6_copyFrom_13 : decode cX6_copyFrom 13 = .ok (.getfield 24, 3) := by decide +kernel
theorem dX6_copyFrom_16 : decode cX6_copyFrom 16 = .ok (.putfield 24, 3) := by decide +kernel
theorem dX6_copyFrom_19 : decode cX6_copyFrom 19 = .ok (.iconst 0, 1) := by decide +kernel
theorem dX6_copyFrom_20 : decode cX6_copyFrom 20 = .ok (.istore_n 2, 1) := by decide +kernel
theorem dX6_copyFrom_21 : decode cX6_copyFrom 21 = .ok (.iload_n 2, 1) := by decide +kernel
theorem dX6_copyFrom_22 : decode cX6_copyFrom 22 = .ok (.bipush 6, 2) := by decide +kernel
theorem dX6_copyFrom_24 : decode cX6_copyFrom 24 = .ok (.if_icmp .ge 21, 3) := by decide +kernel
theorem dX6_copyFrom_27 : decode cX6_copyFrom 27 = .ok (.aload_n 0, 1) := by decide +kernel
theorem dX6_copyFrom_28 : decode cX6_copyFrom 28 = .ok (.getfield 20, 3) := by decide +kernel
theorem dX6_copyFrom_31 : decode cX6_copyFrom 31 = .ok (.iload_n 2, 1) := by decide +kernel
theorem dX6_copyFrom_32 : decode cX6_copyFrom 32 = .ok (.aload_n 1, 1) := by decide +kernel
theorem dX6_copyFrom_33 : decode cX6_copyFrom 33 = .ok (.getfield 20, 3) := by decide +kernel
theorem dX6_copyFrom_36 : decode cX6_copyFrom 36 = .ok (.iload_n 2, 1) := by decide +kernel
theorem dX6_copyFrom_37 : decode cX6_copyFrom 37 = .ok (.aaload, 1) := by decide +kernel
theorem dX6_copyFrom_38 : decode cX6_copyFrom 38 = .ok (.aastore, 1) := by decide +kernel
theorem dX6_copyFrom_39 : decode cX6_copyFrom 39 = .ok (.iinc 2 1, 3) := by decide +kernel
theorem dX6_copyFrom_42 : decode cX6_copyFrom 42 = .ok (.goto (-21), 3) := by decide +kernel
theorem dX6_copyFrom_45 : decode cX6_copyFrom 45 = .ok (.return_, 1) := by decide +kernel
theorem dX6_empty_0 : decode cX6_empty 0 = .ok (.aload_n 0, 1) := by decide +kernel
theorem dX6_empty_1 : decode cX6_empty 1 = .ok (.getfield 12, 3) := by decide +kernel
theorem dX6_empty_4 : decode cX6_empty 4 = .ok (.iconst 0, 1) := by decide +kernel
theorem dX6_empty_5 : decode cX6_empty 5 = .ok (.putfield 39, 3) := by decide +kernel
theorem dX6_empty_8 : decode cX6_empty 8 = .ok (.aload_n 0, 1) := by decide +kernel
theorem dX6_empty_9 : decode cX6_empty 9 = .ok (.iconst 0, 1) := by decide +kernel
theorem dX6_empty_10 : decode cX6_empty 10 = .ok (.putfield 24, 3) := by decide +kernel
theorem dX6_empty_13 : decode cX6_empty 13 = .ok (.return_, 1) := by decide +kernel
theorem dX6_hasRule_0 : decode cX6_hasRule 0 = .ok (.iload_n 1, 1) := by decide +kernel
theorem dX6_hasRule_1 : decode cX6_hasRule 1 = .ok (.ifCond .lt 15, 3) := by decide +kernel
theorem dX6_hasRule_4 : decode cX6_hasRule 4 = .ok (.iload_n 1, 1) := by decide +kernel
theorem dX6_hasRule_5 : decode cX6_hasRule 5 = .ok (.aload_n 0, 1) := by decide +kernel
theorem dX6_hasRule_6 : decode cX6_hasRule 6 = .ok (.getfield 24, 3) := by decide +kernel
theorem dX6_hasRule_9 : decode cX6_hasRule 9 = .ok (.if_icmp .ge 7, 3) := by decide +kernel
theorem dX6_hasRule_12 : decode cX6_hasRule 12 = .ok (.iconst 1, 1) := by decide +kernel
theorem dX6_hasRule_13 : decode cX6_hasRule 13 = .ok (.goto 4, 3) := by decide +kernel
theorem dX6_hasRule_16 : decode cX6_hasRule 16 = .ok (.iconst 0, 1) := by decide +kernel
theorem dX6_hasRule_17 : decode cX6_hasRule 17 = .ok (.ireturn, 1) := by decide +kernel
theorem dX6_ruleAt_0 : decode cX6_ruleAt 0 = .ok (.aload_n 0, 1) := by decide +kernel
theorem dX6_ruleAt_1 : decode cX6_ruleAt 1 = .ok (.iload_n 1, 1) := by decide +kernel
theorem dX6_ruleAt_2 : decode cX6_ruleAt 2 = .ok (.invokevirtual 42, 3) := by decide +kernel
theorem dX6_ruleAt_5 : decode cX6_ruleAt 5 = .ok (.ifCond .eq 12, 3) := by decide +kernel
theorem dX6_ruleAt_8 : decode cX6_ruleAt 8 = .ok (.aload_n 0, 1) := by decide +kernel
theorem dX6_ruleAt_9 : decode cX6_ruleAt 9 = .ok (.getfield 20, 3) := by decide +kernel
theorem dX6_ruleAt_12 : decode cX6_ruleAt 12 = .ok (.iload_n 1, 1) := by decide +kernel
theorem dX6_ruleAt_13 : decode cX6_ruleAt 13 = .ok (.aaload, 1) := by decide +kernel
theorem dX6_ruleAt_14 : decode cX6_ruleAt 14 = .ok (.goto 7, 3) := by decide +kernel
theorem dX6_ruleAt_17 : decode cX6_ruleAt 17 = .ok (.aload_n 0, 1) := by decide +kernel
theorem dX6_ruleAt_18 : decode cX6_ruleAt 18 = .ok (.getfield 31, 3) := by decide +kernel
theorem dX6_ruleAt_21 : decode cX6_ruleAt 21 = .ok (.areturn, 1) := by decide +kernel
theorem dX6_addRule_0 : decode cX6_addRule 0 = .ok (.aload_n 0, 1) := by decide +kernel
theorem dX6_addRule_1 : decode cX6_addRule 1 = .ok (.getfield 24, 3) := by decide +kernel
theorem dX6_addRule_4 : decode cX6_addRule 4 = .ok (.bipush 6, 2) := by decide +kernel
theorem dX6_addRule_6 : decode cX6_addRule 6 = .ok (.if_icmp .ge 23, 3) := by decide +kernel
theorem dX6_addRule_9 : decode cX6_addRule 9 = .ok (.aload_n 0, 1) := by decide +kernel
theorem dX6_addRule_10 : decode cX6_addRule 10 = .ok (.getfield 20, 3) := by decide +kernel
theorem dX6_addRule_13 : decode cX6_addRule 13 = .ok (.aload_n 0, 1) := by decide +kernel
theorem dX6_addRule_14 : decode cX6_addRule 14 = .ok (.getfield 24, 3) := by decide +kernel
theorem dX6_addRule_17 : decode cX6_addRule 17 = .ok (.aload_n 1, 1) := by decide +kernel
theorem dX6_addRule_18 : decode cX6_addRule 18 = .ok (.aastore, 1) := by decide +kernel
theorem dX6_addRule_19 : decode cX6_addRule 19 = .ok (.aload_n 0, 1) := by decide +kernel
theorem dX6_addRule_20 : decode cX6_addRule 20 = .ok (.dup, 1) := by decide +kernel
theorem dX6_addRule_21 : decode cX6_addRule 21 = .ok (.getfield 24, 3) := by decide +kernel
theorem dX6_addRule_24 : decode cX6_addRule 24 = .ok (.iconst 1, 1) := by decide +kernel
theorem dX6_addRule_25 : decode cX6_addRule 25 = .ok (.iadd, 1) := by decide +kernel
theorem dX6_addRule_26 : decode cX6_addRule 26 = .ok (.putfield 24, 3) := by decide +kernel
theorem dX6_addRule_29 : decode cX6_addRule 29 = .ok (.return_, 1) := by decide +kernel
theorem dX6_removeRule_0 : decode cX6_removeRule 0 = .ok (.aload_n 0, 1) := by decide +kernel
theorem dX6_removeRule_1 : decode cX6_removeRule 1 = .ok (.iload_n 1, 1) := by decide +kernel
theorem dX6_removeRule_2 : decode cX6_removeRule 2 = .ok (.invokevirtual 42, 3) := by decide +kernel
theorem dX6_removeRule_5 : decode cX6_removeRule 5 = .ok (.ifCond .ne 4, 3) := by decide +kernel
theorem dX6_removeRule_8 : decode cX6_removeRule 8 = .ok (.return_, 1) := by decide +kernel
theorem dX6_removeRule_9 : decode cX6_removeRule 9 = .ok (.iload_n 1, 1) := by decide +kernel
theorem dX6_removeRule_10 : decode cX6_removeRule 10 = .ok (.istore_n 2, 1) := by decide +kernel
theorem dX6_removeRule_11 : decode cX6_removeRule 11 = .ok (.iload_n 2, 1) := by decide +kernel
theorem dX6_removeRule_12 : decode cX6_removeRule 12 = .ok (.iconst 1, 1) := by decide +kernel
theorem dX6_removeRule_13 : decode cX6_removeRule 13 = .ok (.iadd, 1) := by decide +kernel
theorem dX6_removeRule_14 : decode cX6_removeRule 14 = .ok (.aload_n 0, 1) := by decide +kernel
theorem dX6_removeRule_15 : decode cX6_removeRule 15 = .ok (.getfield 24, 3) := by decide +kernel
theorem dX6_removeRule_18 : decode cX6_removeRule 18 = .ok (.if_icmp .ge 23, 3) := by decide +kernel
theorem dX6_removeRule_21 : decode cX6_removeRule 21 = .ok (.aload_n 0, 1) := by decide +kernel
theorem dX6_removeRule_22 : decode cX6_removeRule 22 = .ok (.getfield 20, 3) := by decide +kernel
theorem dX6_removeRule_25 : decode cX6_removeRule 25 = .ok (.iload_n 2, 1) := by decide +kernel
theorem dX6_removeRule_26 : decode cX6_removeRule 26 = .ok (.aload_n 0, 1) := by decide +kernel
theorem dX6_removeRule_27 : decode cX6_removeRule 27 = .ok (.getfield 20, 3) := by decide +kernel
theorem dX6_removeRule_30 : decode cX6_removeRule 30 = .ok (.iload_n 2, 1) := by decide +kernel
theorem dX6_removeRule_31 : decode cX6_removeRule 31 = .ok (.iconst 1, 1) := by decide +kernel
theorem dX6_removeRule_32 : decode cX6_removeRule 32 = .ok (.iadd, 1) := by decide +kernel
theorem dX6_removeRule_33 : decode cX6_removeRule 33 = .ok (.aaload, 1) := by decide +kernel
theorem dX6_removeRule_34 : decode cX6_removeRule 34 = .ok (.aastore, 1) := by decide +kernel
theorem dX6_removeRule_35 : decode cX6_removeRule 35 = .ok (.iinc 2 1, 3) := by decide +kernel
theorem dX6_removeRule_38 : decode cX6_removeRule 38 = .ok (.goto (-27), 3) := by decide +kernel
theorem dX6_removeRule_41 : decode cX6_removeRule 41 = .ok (.aload_n 0, 1) := by decide +kernel
theorem dX6_removeRule_42 : decode cX6_removeRule 42 = .ok (.dup, 1) := by decide +kernel
theorem dX6_removeRule_43 : decode cX6_removeRule 43 = .ok (.getfield 24, 3) := by decide +kernel
theorem dX6_removeRule_46 : decode cX6_removeRule 46 = .ok (.iconst 1, 1) := by decide +kernel
theorem dX6_removeRule_47 : decode cX6_removeRule 47 = .ok (.isub, 1) := by decide +kernel
theorem dX6_removeRule_48 : decode cX6_removeRule 48 = .ok (.putfield 24, 3) := by decide +kernel
theorem dX6_removeRule_51 : decode cX6_removeRule 51 = .ok (.return_, 1) := by decide +kernel
theorem dX7_init_0 : decode cX7_init 0 = .ok (.aload_n 0, 1) := by decide +kernel
theorem dX7_init_1 : decode cX7_init 1 = .ok (.invokespecial 3, 3) := by decide +kernel
theorem dX7_init_4 : decode cX7_init 4 = .ok (.aload_n 0, 1) := by decide +kernel
theorem dX7_init_5 : decode cX7_init 5 = .ok (.bipush 9, 2) := by decide +kernel
theorem dX7_init_7 : decode cX7_init 7 = .ok (.anewarray 11, 3) := by decide +kernel
theorem dX7_init_10 : decode cX7_init 10 = .ok (.putfield 13, 3) := by decide +kernel
theorem dX7_init_13 : decode cX7_init 13 = .ok (.aload_n 0, 1) := by decide +kernel
theorem dX7_init_14 : decode cX7_init 14 = .ok (.iconst 0, 1) := by decide +kernel
theorem dX7_init_15 : decode cX7_init 15 = .ok (.putfield 17, 3) := by decide +kernel
theorem dX7_init_18 : decode cX7_init 18 = .ok (.aload_n 0, 1) := by decide +kernel
theorem dX7_init_19 : decode cX7_init 19 = .ok (.iconst 0, 1) := by decide +kernel
theorem dX7_init_20 : decode cX7_init 20 = .ok (.putfield 21, 3) := by decide +kernel
theorem dX7_init_23 : decode cX7_init 23 = .ok (.iconst 0, 1) := by decide +kernel
theorem dX7_init_24 : decode cX7_init 24 = .ok (.istore_n 1, 1) := by decide +kernel
theorem dX7_init_25 : decode cX7_init 25 = .ok (.iload_n 1, 1) := by decide +kernel
theorem dX7_init_26 : decode cX7_init 26 = .ok (.bipush 9, 2) := by decide +kernel
theorem dX7_init_28 : decode cX7_init 28 = .ok (.if_icmp .ge 22, 3) := by decide +kernel
theorem dX7_init_31 : decode cX7_init 31 = .ok (.aload_n 0, 1) := by decide +kernel
theorem dX7_init_32 : decode cX7_init 32 = .ok (.getfield 13, 3) := by decide +kernel
theorem dX7_init_35 : decode cX7_init 35 = .ok (.iload_n 1, 1) := by decide +kernel
theorem dX7_init_36 : decode cX7_init 36 = .ok (.new 11, 3) := by decide +kernel
theorem dX7_init_39 : decode cX7_init 39 = .ok (.dup, 1) := by decide +kernel
theorem dX7_init_40 : decode cX7_init 40 = .ok (.invokespecial 24, 3) := by decide +kernel
theorem dX7_init_43 : decode cX7_init 43 = .ok (.aastore, 1) := by decide +kernel
theorem dX7_init_44 : decode cX7_init 44 = .ok (.iinc 1 1, 3) := by decide +kernel
theorem dX7_init_47 : decode cX7_init 47 = .ok (.goto (-22), 3) := by decide +kernel
theorem dX7_init_50 : decode cX7_init 50 = .ok (.return_, 1) := by decide +kernel
theorem dX7_prepare_0 : decode cX7_prepare 0 = .ok (.aload_n 0, 1) := by decide +kernel
theorem dX7_prepare_1 : decode cX7_prepare 1 = .ok (.getfield 13, 3) := by decide +kernel
theorem dX7_prepare_4 : decode cX7_prepare 4 = .ok (.aload_n 0, 1) := by decide +kernel
theorem dX7_prepare_5 : decode cX7_prepare 5 = .ok (.getfield 17, 3) := by decide +kernel
theorem dX7_prepare_8 : decode cX7_prepare 8 = .ok (.aaload, 1) := by decide +kernel
theorem dX7_prepare_9 : decode cX7_prepare 9 = .ok (.aload_n 1, 1) := by decide +kernel
theorem dX7_prepare_10 : decode cX7_prepare 10 = .ok (.invokevirtual 25, 3) := by decide +kernel
theorem dX7_prepare_13 : decode cX7_prepare 13 = .ok (.return_, 1) := by decide +kernel
theorem dX7_keepPrepared_0 : decode cX7_keepPrepared 0 = .ok (.aload_n 0, 1) := by decide +kernel
theorem dX7_keepPrepared_1 : decode cX7_keepPrepared 1 = .ok (.aload_n 0, 1) := by decide +kernel
theorem dX7_keepPrepared_2 : decode cX7_keepPrepared 2 = .ok (.getfield 17, 3) := by decide +kernel
theorem dX7_keepPrepared_5 : decode cX7_keepPrepared 5 = .ok (.iconst 1, 1) := by decide +kernel
theorem dX7_keepPrepared_6 : decode cX7_keepPrepared 6 = .ok (.iadd, 1) := by decide +kernel
theorem dX7_keepPrepared_7 : decode cX7_keepPrepared 7 = .ok (.bipush 9, 2) := by decide +kernel
theorem dX7_keepPrepared_9 : decode cX7_keepPrepared 9 = .ok (.irem, 1) := by decide +kernel
theorem dX7_keepPrepared_10 : decode cX7_keepPrepared 10 = .ok (.putfield 17, 3) := by decide +kernel
theorem dX7_keepPrepared_13 : decode cX7_keepPrepared 13 = .ok (.aload_n 0, 1) := by decide +kernel
theorem dX7_keepPrepared_14 : decode cX7_keepPrepared 14 = .ok (.bipush 8, 2) := by decide +kernel
theorem dX7_keepPrepared_16 : decode cX7_keepPrepared 16 = .ok (.aload_n 0, 1) := by decide +kernel
theorem dX7_keepPrepared_17 : decode cX7_keepPrepared 17 = .ok (.getfield 21, 3) := by decide +kernel
theorem dX7_keepPrepared_20 : decode cX7_keepPrepared 20 = .ok (.iconst 1, 1) := by decide +kernel
theorem dX7_keepPrepared_21 : decode cX7_keepPrepared 21 = .ok (.iadd, 1) := by decide +kernel
theorem dX7_keepPrepared_22 : decode cX7_keepPrepared 22 = .ok (.invokestatic 29, 3) := by decide +kernel
theorem dX7_keepPrepared_25 : decode cX7_keepPrepared 25 = .ok (.putfield 21, 3) := by decide +kernel
theorem dX7_keepPrepared_28 : decode cX7_keepPrepared 28 = .ok (.return_, 1) := by decide +kernel
theorem dX7_keep_0 : decode cX7_keep 0 = .ok (.aload_n 0, 1) := by decide +kernel
theorem dX7_keep_1 : decode cX7_keep 1 = .ok (.aload_n 1, 1) := by decide +kernel
theorem dX7_keep_2 : decode cX7_keep 2 = .ok (.invokevirtual 35, 3) := by decide +kernel
theorem dX7_keep_5 : decode cX7_keep 5 = .ok (.aload_n 0, 1) := by decide +kernel
theorem dX7_keep_6 : decode cX7_keep 6 = .ok (.invokevirtual 38, 3) := by decide +kernel
theorem dX7_keep_9 : decode cX7_keep 9 = .ok (.return_, 1) := by decide +kernel
theorem dX7_undo_0 : decode cX7_undo 0 = .ok (.aload_n 1, 1) := by decide +kernel
theorem dX7_undo_1 : decode cX7_undo 1 = .ok (.aload_n 0, 1) := by decide +kernel
theorem dX7_undo_2 : decode cX7_undo 2 = .ok (.getfield 13, 3) := by decide +kernel
theorem dX7_undo_5 : decode cX7_undo 5 = .ok (.aload_n 0, 1) := by decide +kernel
theorem dX7_undo_6 : decode cX7_undo 6 = .ok (.getfield 17, 3) := by decide +kernel
theorem dX7_undo_9 : decode cX7_undo 9 = .ok (.aaload, 1) := by decide +kernel
theorem dX7_undo_10 : decode cX7_undo 10 = .ok (.invokevirtual 25, 3) := by decide +kernel
theorem dX7_undo_13 : decode cX7_undo 13 = .ok (.return_, 1) := by decide +kernel
theorem dX7_goBack_0 : decode cX7_goBack 0 = .ok (.aload_n 0, 1) := by decide +kernel
theorem dX7_goBack_1 : decode cX7_goBack 1 = .ok (.getfield 21, 3) := by decide +kernel
theorem dX7_goBack_4 : decode cX7_goBack 4 = .ok (.ifCond .le 42, 3) := by decide +kernel
theorem dX7_goBack_7 : decode cX7_goBack 7 = .ok (.aload_n 0, 1) := by decide +kernel
theorem dX7_goBack_8 : decode cX7_goBack 8 = .ok (.dup, 1) := by decide +kernel
theorem dX7_goBack_9 : decode cX7_goBack 9 = .ok (.getfield 21, 3) := by decide +kernel
theorem dX7_goBack_12 : decode cX7_goBack 12 = .ok (.iconst 1, 1) := by decide +kernel
theorem dX7_goBack_13 : decode cX7_goBack 13 = .ok (.isub, 1) := by decide +kernel
theorem dX7_goBack_14 : decode cX7_goBack 14 = .ok (.putfield 21, 3) := by decide +kernel
theorem dX7_goBack_17 : decode cX7_goBack 17 = .ok (.aload_n 0, 1) := by decide +kernel
theorem dX7_goBack_18 : decode cX7_goBack 18 = .ok (.aload_n 0, 1) := by decide +kernel
theorem dX7_goBack_19 : decode cX7_goBack 19 = .ok (.getfield 17, 3) := by decide +kernel
theorem dX7_goBack_22 : decode cX7_goBack 22 = .ok (.bipush 9, 2) := by decide +kernel
theorem dX7_goBack_24 : decode cX7_goBack 24 = .ok (.iadd, 1) := by decide +kernel
theorem dX7_goBack_25 : decode cX7_goBack 25 = .ok (.iconst 1, 1) := by decide +kernel
theorem dX7_goBack_26 : decode cX7_goBack 26 = .ok (.isub, 1) := by decide +kernel
theorem dX7_goBack_27 : decode cX7_goBack 27 = .ok (.bipush 9, 2) := by decide +kernel
theorem dX7_goBack_29 : decode cX7_goBack 29 = .ok (.irem, 1) := by decide +kernel
theorem dX7_goBack_30 : decode cX7_goBack 30 = .ok (.putfield 17, 3) := by decide +kernel
theorem dX7_goBack_33 : decode cX7_goBack 33 = .ok (.aload_n 1, 1) := by decide +kernel
theorem dX7_goBack_34 : decode cX7_goBack 34 = .ok (.aload_n 0, 1) := by decide +kernel
theorem dX7_goBack_35 : decode cX7_goBack 35 = .ok (.getfield 13, 3) := by decide +kernel
theorem dX7_goBack_38 : decode cX7_goBack 38 = .ok (.aload_n 0, 1) := by decide +kernel
theorem dX7_goBack_39 : decode cX7_goBack 39 = .ok (.getfield 17, 3) := by decide +kernel
theorem dX7_goBack_42 : decode cX7_goBack 42 = .ok (.aaload, 1) := by decide +kernel
theorem dX7_goBack_43 : decode cX7_goBack 43 = .ok (.invokevirtual 25, 3) := by decide +kernel
theorem dX7_goBack_46 : decode cX7_goBack 46 = .ok (.return_, 1) := by decide +kernel
theorem dX8_init_0 : decode cX8_init 0 = .ok (.aload_n 0, 1) := by decide +kernel
theorem dX8_init_1 : decode cX8_init 1 = .ok (.invokespecial 3, 3) := by decide +kernel
theorem dX8_init_4 : decode cX8_init 4 = .ok (.aload_n 0, 1) := by decide +kernel
theorem dX8_init_5 : decode cX8_init 5 = .ok (.iconst 0, 1) := by decide +kernel
theorem dX8_init_6 : decode cX8_init 6 = .ok (.putfield 9, 3) := by decide +kernel
theorem dX8_init_9 : decode cX8_init 9 = .ok (.aload_n 0, 1) := by decide +kernel
theorem dX8_init_10 : decode cX8_init 10 = .ok (.bipush 50, 2) := by decide +kernel
theorem dX8_init_12 : decode cX8_init 12 = .ok (.newarray .int, 2) := by decide +kernel
theorem dX8_init_14 : decode cX8_init 14 = .ok (.putfield 15, 3) := by decide +kernel
theorem dX8_init_17 : decode cX8_init 17 = .ok (.aload_n 0, 1) := by decide +kernel
theorem dX8_init_18 : decode cX8_init 18 = .ok (.bipush 50, 2) := by decide +kernel
theorem dX8_init_20 : decode cX8_init 20 = .ok (.newarray .int, 2) := by decide +kernel
theorem dX8_init_22 : decode cX8_init 22 = .ok (.putfield 19, 3) := by decide +kernel
theorem dX8_init_25 : decode cX8_init 25 = .ok (.aload_n 0, 1) := by decide +kernel
theorem dX8_init_26 : decode cX8_init 26 = .ok (.bipush 50, 2) := by decide +kernel
theorem dX8_init_28 : decode cX8_init 28 = .ok (.newarray .int, 2) := by decide +kernel
theorem dX8_init_30 : decode cX8_init 30 = .ok (.putfield 22, 3) := by decide +kernel
theorem dX8_init_33 : decode cX8_init 33 = .ok (.aload_n 0, 1) := by decide +kernel
theorem dX8_init_34 : decode cX8_init 34 = .ok (.bipush 50, 2) := by decide +kernel
theorem dX8_init_36 : decode cX8_init 36 = .ok (.newarray .int, 2) := by decide +kernel
theorem dX8_init_38 : decode cX8_init 38 = .ok (.putfield 25, 3) := by decide +kernel
theorem dX8_init_41 : decode cX8_init 41 = .ok (.aload_n 0, 1) := by decide +kernel
theorem dX8_init_42 : decode cX8_init 42 = .ok (.bipush 50, 2) := by decide +kernel
theorem dX8_init_44 : decode cX8_init 44 = .ok (.newarray .int, 2) := by decide +kernel
theorem dX8_init_46 : decode cX8_init 46 = .ok (.putfield 28, 3) := by decide +kernel
theorem dX8_init_49 : decode cX8_init 49 = .ok (.return_, 1) := by decide +kernel
theorem dX8_copyFrom_0 : decode cX8_copyFrom 0 = .ok (.aload_n 0, 1) := by decide +kernel
theorem dX8_copyFrom_1 : decode cX8_copyFrom 1 = .ok (.aload_n 1, 1) := by decide +kernel
theorem dX8_copyFrom_2 : decode cX8_copyFrom 2 = .ok (.getfield 9, 3) := by decide +kernel
theorem dX8_copyFrom_5 : decode cX8_copyFrom 5 = .ok (.putfield 9, 3) := by decide +kernel
theorem dX8_copyFrom_8 : decode cX8_copyFrom 8 = .ok (.aload_n 1, 1) := by decide +kernel
theorem dX8_copyFrom_9 : decode cX8_copyFrom 9 = .ok (.getfield 15, 3) := by decide +kernel
theorem dX8_copyFrom_12 : decode cX8_copyFrom 12 = .ok (.iconst 0, 1) := by decide +kernel
theorem dX8_copyFrom_13 : decode cX8_copyFrom 13 = .ok (.aload_n 0, 1) := by decide +kernel
theorem dX8_copyFrom_14 : decode cX8_copyFrom 14 = .ok (.getfield 15, 3) := by decide +kernel
theorem dX8_copyFrom_17 : decode cX8_copyFrom 17 = .ok (.iconst 0, 1) := by decide +kernel
theorem dX8_copyFrom_18 : decode cX8_copyFrom 18 = .ok (.bipush 50, 2) := by decide +kernel
theorem dX8_copyFrom_20 : decode cX8_copyFrom 20 = .ok (.invokestatic 31, 3) := by decide +kernel
theorem dX8_copyFrom_23 : decode cX8_copyFrom 23 = .ok (.aload_n 1, 1) := by decide +kernel
theorem dX8_copyFrom_24 : decode cX8_copyFrom 24 = .ok (.getfield 19, 3) := by decide +kernel
theorem dX8_copyFrom_27 : decode cX8_copyFrom 27 = .ok (.iconst 0, 1) := by decide +kernel
theorem dX8_copyFrom_28 : decode cX8_copyFrom 28 = .ok (.aload_n 0, 1) := by decide +kernel
theorem dX8_copyFrom_29 : decode cX8_copyFrom 29 = .ok (.getfield 19, 3) := by decide +kernel
theorem dX8_copyFrom_32 : decode cX8_copyFrom 32 = .ok (.iconst 0, 1) := by decide +kernel
theorem dX8_copyFrom_33 : decode cX8_copyFrom 33 = .ok (.bipush 50, 2) := by decide +kernel
theorem dX8_copyFrom_35 : decode cX8_copyFrom 35 = .ok (.invokestatic 31, 3) := by decide +kernel
theorem dX8_copyFrom_38 : decode cX8_copyFrom 38 = .ok (.aload_n 1, 1) := by decide +kernel
theorem dX8_copyFrom_39 : decode cX8_copyFrom 39 = .ok (.getfield 22, 3) := by decide +kernel
theorem dX8_copyFrom_42 : decode cX8_copyFrom 42 = .ok (.iconst 0, 1) := by decide +kernel
theorem dX8_copyFrom_43 : decode cX8_copyFrom 43 = .ok (.aload_n 0, 1) := by decide +kernel
theorem dX8_copyFrom_44 : decode cX8_copyFrom 44 = .ok (.getfield 22, 3) := by decide +kernel
theorem dX8_copyFrom_47 : decode cX8_copyFrom 47 = .ok (.iconst 0, 1) := by decide +kernel
theorem dX8_copyFrom_48 : decode cX8_copyFrom 48 = .ok (.bipush 50, 2) := by decide +kernel
theorem dX8_copyFrom_50 : decode cX8_copyFrom 50 = .ok (.invokestatic 31, 3) := by decide +kernel
theorem dX8_copyFrom_53 : decode cX8_copyFrom 53 = .ok (.aload_n 1, 1) := by decide +kernel
theorem dX8_copyFrom_54 : decode cX8_copyFrom 54 = .ok (.getfield 25, 3) := by decide +kernel
theorem dX8_copyFrom_57 : decode cX8_copyFrom 57 = .ok (.iconst 0, 1) := by decide +kernel
theorem dX8_copyFrom_58 : decode cX8_copyFrom 58 = .ok (.aload_n 0, 1) := by decide +kernel
theorem dX8_copyFrom_59 : decode cX8_copyFrom 59 = .ok (.getfield 25, 3) := by decide +kernel
theorem dX8_copyFrom_62 : decode cX8_copyFrom 62 = .ok (.iconst 0, 1) := by decide +kernel
theorem dX8_copyFrom_63 : decode cX8_copyFrom 63 = .ok (.bipush 50, 2) := by decide +kernel
theorem dX8_copyFrom_65 : decode cX8_copyFrom 65 = .ok (.invokestatic 31, 3) := by decide +kernel
theorem dX8_copyFrom_68 : decode cX8_copyFrom 68 = .ok (.aload_n 1, 1) := by decide +kernel
theorem dX8_copyFrom_69 : decode cX8_copyFrom 69 = .ok (.getfield 28, 3) := by decide +kernel
theorem dX8_copyFrom_72 : decode cX8_copyFrom 72 = .ok (.iconst 0, 1) := by decide +kernel
theorem dX8_copyFrom_73 : decode cX8_copyFrom 73 = .ok (.aload_n 0, 1) := by decide +kernel
theorem dX8_copyFrom_74 : decode cX8_copyFrom 74 = .ok (.getfield 28, 3) := by decide +kernel
theorem dX8_copyFrom_77 : decode cX8_copyFrom 77 = .ok (.iconst 0, 1) := by decide +kernel
theorem dX8_copyFrom_78 : decode cX8_copyFrom 78 = .ok (.bipush 50, 2) := by decide +kernel
theorem dX8_copyFrom_80 : decode cX8_copyFrom 80 = .ok (.invokestatic 31, 3) := by decide +kernel
theorem dX8_copyFrom_83 : decode cX8_copyFrom 83 = .ok (.return_, 1) := by decide +kernel
theorem dX8_has_0 : decode cX8_has 0 = .ok (.iload_n 1, 1) := by decide +kernel
theorem dX8_has_1 : decode cX8_has 1 = .ok (.ifCond .lt 15, 3) := by decide +kernel
theorem dX8_has_4 : decode cX8_has 4 = .ok (.iload_n 1, 1) := by decide +kernel
theorem dX8_has_5 : decode cX8_has 5 = .ok (.aload_n 0, 1) := by decide +kernel
theorem dX8_has_6 : decode cX8_has 6 = .ok (.getfield 9, 3) := by decide +kernel
theorem dX8_has_9 : decode cX8_has 9 = .ok (.if_icmp .ge 7, 3) := by decide +kernel
theorem dX8_has_12 : decode cX8_has 12 = .ok (.iconst 1, 1) := by decide +kernel
theorem dX8_has_13 : decode cX8_has 13 = .ok (.goto 4, 3) := by decide +kernel
theorem dX8_has_16 : decode cX8_has 16 = .ok (.iconst 0, 1) := by decide +kernel
theorem dX8_has_17 : decode cX8_has 17 = .ok (.ireturn, 1) := by decide +kernel
theorem dX8_homeOf_0 : decode cX8_homeOf 0 = .ok (.aload_n 0, 1) := by decide +kernel
theorem dX8_homeOf_1 : decode cX8_homeOf 1 = .ok (.iload_n 1, 1) := by decide +kernel
theorem dX8_homeOf_2 : decode cX8_homeOf 2 = .ok (.invokevirtual 37, 3) := by decide +kernel
theorem dX8_homeOf_5 : decode cX8_homeOf 5 = .ok (.ifCond .eq 12, 3) := by decide +kernel
theorem dX8_homeOf_8 : decode cX8_homeOf 8 = .ok (.aload_n 0, 1) := by decide +kernel
theorem dX8_homeOf_9 : decode cX8_homeOf 9 = .ok (.getfield 28, 3) := by decide +kernel
theorem dX8_homeOf_12 : decode cX8_homeOf 12 = .ok (.iload_n 1, 1) := by decide +kernel
theorem dX8_homeOf_13 : decode cX8_homeOf 13 = .ok (.iaload, 1) := by decide +kernel
theorem dX8_homeOf_14 : decode cX8_homeOf 14 = .ok (.goto 4, 3) := by decide +kernel
theorem dX8_homeOf_17 : decode cX8_homeOf 17 = .ok (.iconst (-1), 1) := by decide +kernel
theorem dX8_homeOf_18 : decode cX8_homeOf 18 = .ok (.ireturn, 1) := by decide +kernel
theorem dX8_lookUp_0 : decode cX8_lookUp 0 = .ok (.iconst 0, 1) := by decide +kernel
theorem dX8_lookUp_1 : decode cX8_lookUp 1 = .ok (.istore 4, 2) := by decide +kernel
theorem dX8_lookUp_3 : decode cX8_lookUp 3 = .ok (.iload 4, 2) := by decide +kernel
theorem dX8_lookUp_5 : decode cX8_lookUp 5 = .ok (.aload_n 0, 1) := by decide +kernel
theorem dX8_lookUp_6 : decode cX8_lookUp 6 = .ok (.getfield 9, 3) := by decide +kernel
theorem dX8_lookUp_9 : decode cX8_lookUp 9 = .ok (.if_icmp .ge 45, 3) := by decide +kernel
theorem dX8_lookUp_12 : decode cX8_lookUp 12 = .ok (.aload_n 0, 1) := by decide +kernel
theorem dX8_lookUp_13 : decode cX8_lookUp 13 = .ok (.getfield 15, 3) := by decide +kernel
theorem dX8_lookUp_16 : decode cX8_lookUp 16 = .ok (.iload 4, 2) := by decide +kernel
theorem dX8_lookUp_18 : decode cX8_lookUp 18 = .ok (.iaload, 1) := by decide +kernel
theorem dX8_lookUp_19 : decode cX8_lookUp 19 = .ok (.iload_n 1, 1) := by decide +kernel
theorem dX8_lookUp_20 : decode cX8_lookUp 20 = .ok (.if_icmp .ne 28, 3) := by decide +kernel
theorem dX8_lookUp_23 : decode cX8_lookUp 23 = .ok (.aload_n 0, 1) := by decide +kernel
theorem dX8_lookUp_24 : decode cX8_lookUp 24 = .ok (.getfield 19, 3) := by decide +kernel
theorem dX8_lookUp_27 : decode cX8_lookUp 27 = .ok (.iload 4, 2) := by decide +kernel
theorem dX8_lookUp_29 : decode cX8_lookUp 29 = .ok (.iaload, 1) := by decide +kernel
theorem dX8_lookUp_30 : decode cX8_lookUp 30 = .ok (.iload_n 2, 1) := by decide +kernel
theorem dX8_lookUp_31 : decode cX8_lookUp 31 = .ok (.if_icmp .ne 17, 3) := by decide +kernel
theorem dX8_lookUp_34 : decode cX8_lookUp 34 = .ok (.aload_n 0, 1) := by decide +kernel
theorem dX8_lookUp_35 : decode cX8_lookUp 35 = .ok (.getfield 22, 3) := by decide +kernel
theorem dX8_lookUp_38 : decode cX8_lookUp 38 = .ok (.iload 4, 2) := by decide +kernel
theorem dX8_lookUp_40 : decode cX8_lookUp 40 = .ok (.iaload, 1) := by decide +kernel
theorem dX8_lookUp_41 : decode cX8_lookUp 41 = .ok (.iload_n 3, 1) := by decide +kernel
theorem dX8_lookUp_42 : decode cX8_lookUp 42 = .ok (.if_icmp .ne 6, 3) := by decide +kernel
theorem dX8_lookUp_45 : decode cX8_lookUp 45 = .ok (.iload 4, 2) := by decide +kernel
theorem dX8_lookUp_47 : decode cX8_lookUp 47 = .ok (.ireturn, 1) := by decide +kernel
theorem dX8_lookUp_48 : decode cX8_lookUp 48 = .ok (.iinc 4 1, 3) := by decide +kernel
theorem dX8_lookUp_51 : decode cX8_lookUp 51 = .ok (.goto (-48), 3) := by decide +kernel
theorem dX8_lookUp_54 : decode cX8_lookUp 54 = .ok (.iconst (-1), 1) := by decide +kernel
theorem dX8_lookUp_55 : decode cX8_lookUp 55 = .ok (.ireturn, 1) := by decide +kernel
theorem dX8_add_0 : decode cX8_add 0 = .ok (.aload_n 0, 1) := by decide +kernel
theorem dX8_add_1 : decode cX8_add 1 = .ok (.getfield 9, 3) := by decide +kernel
theorem dX8_add_4 : decode cX8_add 4 = .ok (.bipush 50, 2) := by decide +kernel
theorem dX8_add_6 : decode cX8_add 6 = .ok (.if_icmp .lt 5, 3) := by decide +kernel
theorem dX8_add_9 : decode cX8_add 9 = .ok (.iconst (-1), 1) := by decide +kernel
theorem dX8_add_10 : decode cX8_add 10 = .ok (.ireturn, 1) := by decide +kernel
theorem dX8_add_11 : decode cX8_add 11 = .ok (.aload_n 0, 1) := by decide +kernel
theorem dX8_add_12 : decode cX8_add 12 = .ok (.getfield 15, 3) := by decide +kernel
theorem dX8_add_15 : decode cX8_add 15 = .ok (.aload_n 0, 1) := by decide +kernel
theorem dX8_add_16 : decode cX8_add 16 = .ok (.getfield 9, 3) := by decide +kernel
theorem dX8_add_19 : decode cX8_add 19 = .ok (.iload_n 1, 1) := by decide +kernel
theorem dX8_add_20 : decode cX8_add 20 = .ok (.iastore, 1) := by decide +kernel
theorem dX8_add_21 : decode cX8_add 21 = .ok (.aload_n 0, 1) := by decide +kernel
theorem dX8_add_22 : decode cX8_add 22 = .ok (.getfield 19, 3) := by decide +kernel
theorem dX8_add_25 : decode cX8_add 25 = .ok (.aload_n 0, 1) := by decide +kernel
theorem dX8_add_26 : decode cX8_add 26 = .ok (.getfield 9, 3) := by decide +kernel
theorem dX8_add_29 : decode cX8_add 29 = .ok (.iload_n 2, 1) := by decide +kernel
theorem dX8_add_30 : decode cX8_add 30 = .ok (.iastore, 1) := by decide +kernel
theorem dX8_add_31 : decode cX8_add 31 = .ok (.aload_n 0, 1) := by decide +kernel
theorem dX8_add_32 : decode cX8_add 32 = .ok (.getfield 22, 3) := by decide +kernel
theorem dX8_add_35 : decode cX8_add 35 = .ok (.aload_n 0, 1) := by decide +kernel
theorem dX8_add_36 : decode cX8_add 36 = .ok (.getfield 9, 3) := by decide +kernel
theorem dX8_add_39 : decode cX8_add 39 = .ok (.iload_n 3, 1) := by decide +kernel
theorem dX8_add_40 : decode cX8_add 40 = .ok (.iastore, 1) := by decide +kernel
theorem dX8_add_41 : decode cX8_add 41 = .ok (.aload_n 0, 1) := by decide +kernel
theorem dX8_add_42 : decode cX8_add 42 = .ok (.getfield 25, 3) := by decide +kernel
theorem dX8_add_45 : decode cX8_add 45 = .ok (.aload_n 0, 1) := by decide +kernel
theorem dX8_add_46 : decode cX8_add 46 = .ok (.getfield 9, 3) := by decide +kernel
theorem dX8_add_49 : decode cX8_add 49 = .ok (.iload 4, 2) := by decide +kernel
theorem dX8_add_51 : decode cX8_add 51 = .ok (.iastore, 1) := by decide +kernel
theorem dX8_add_52 : decode cX8_add 52 = .ok (.aload_n 0, 1) := by decide +kernel
theorem dX8_add_53 : decode cX8_add 53 = .ok (.getfield 28, 3) := by decide +kernel
theorem dX8_add_56 : decode cX8_add 56 = .ok (.aload_n 0, 1) := by decide +kernel
theorem dX8_add_57 : decode cX8_add 57 = .ok (.getfield 9, 3) := by decide +kernel
theorem dX8_add_60 : decode cX8_add 60 = .ok (.aload_n 0, 1) := by decide +kernel
theorem dX8_add_61 : decode cX8_add 61 = .ok (.getfield 9, 3) := by decide +kernel
theorem dX8_add_64 : decode cX8_add 64 = .ok (.iastore, 1) := by decide +kernel
theorem dX8_add_65 : decode cX8_add 65 = .ok (.aload_n 0, 1) := by decide +kernel
theorem dX8_add_66 : decode cX8_add 66 = .ok (.dup, 1) := by decide +kernel
theorem dX8_add_67 : decode cX8_add 67 = .ok (.getfield 9, 3) := by decide +kernel
theorem dX8_add_70 : decode cX8_add 70 = .ok (.iconst 1, 1) := by decide +kernel
theorem dX8_add_71 : decode cX8_add 71 = .ok (.iadd, 1) := by decide +kernel
theorem dX8_add_72 : decode cX8_add 72 = .ok (.putfield 9, 3) := by decide +kernel
theorem dX8_add_75 : decode cX8_add 75 = .ok (.aload_n 0, 1) := by decide +kernel
theorem dX8_add_76 : decode cX8_add 76 = .ok (.getfield 9, 3) := by decide +kernel
theorem dX8_add_79 : decode cX8_add 79 = .ok (.iconst 1, 1) := by decide +kernel
theorem dX8_add_80 : decode cX8_add 80 = .ok (.isub, 1) := by decide +kernel
theorem dX8_add_81 : decode cX8_add 81 = .ok (.ireturn, 1) := by decide +kernel
theorem dX8_unite_0 : decode cX8_unite 0 = .ok (.aload_n 0, 1) := by decide +kernel
theorem dX8_unite_1 : decode cX8_unite 1 = .ok (.iload_n 1, 1) := by decide +kernel
theorem dX8_unite_2 : decode cX8_unite 2 = .ok (.invokevirtual 41, 3) := by decide +kernel
theorem dX8_unite_5 : decode cX8_unite 5 = .ok (.istore_n 3, 1) := by decide +kernel
theorem dX8_unite_6 : decode cX8_unite 6 = .ok (.aload_n 0, 1) := by decide +kernel
theorem dX8_unite_7 : decode cX8_unite 7 = .ok (.iload_n 2, 1) := by decide +kernel
theorem dX8_unite_8 : decode cX8_unite 8 = .ok (.invokevirtual 41, 3) := by decide +kernel
theorem dX8_unite_11 : decode cX8_unite 11 = .ok (.istore 4, 2) := by decide +kernel
theorem dX8_unite_13 : decode cX8_unite 13 = .ok (.iload_n 3, 1) := by decide +kernel
theorem dX8_unite_14 : decode cX8_unite 14 = .ok (.iload 4, 2) := by decide +kernel
theorem dX8_unite_16 : decode cX8_unite 16 = .ok (.if_icmp .eq 12, 3) := by decide +kernel
theorem dX8_unite_19 : decode cX8_unite 19 = .ok (.iload_n 3, 1) := by decide +kernel
theorem dX8_unite_20 : decode cX8_unite 20 = .ok (.ifCond .lt 8, 3) := by decide +kernel
theorem dX8_unite_23 : decode cX8_unite 23 = .ok (.iload 4, 2) := by decide +kernel
theorem dX8_unite_25 : decode cX8_unite 25 = .ok (.ifCond .ge 5, 3) := by decide +kernel
theorem dX8_unite_28 : decode cX8_unite 28 = .ok (.iconst 0, 1) := by decide +kernel
theorem dX8_unite_29 : decode cX8_unite 29 = .ok (.ireturn, 1) := by decide +kernel
theorem dX8_unite_30 : decode cX8_unite 30 = .ok (.iload_n 3, 1) := by decide +kernel
theorem dX8_unite_31 : decode cX8_unite 31 = .ok (.iload 4, 2) := by decide +kernel
theorem dX8_unite_33 : decode cX8_unite 33 = .ok (.invokestatic 45, 3) := by decide +kernel
theorem dX8_unite_36 : decode cX8_unite 36 = .ok (.istore 5, 2) := by decide +kernel
theorem dX8_unite_38 : decode cX8_unite 38 = .ok (.iload_n 3, 1) := by decide +kernel
theorem dX8_unite_39 : decode cX8_unite 39 = .ok (.iload 4, 2) := by decide +kernel
theorem dX8_unite_41 : decode cX8_unite 41 = .ok (.invokestatic 51, 3) := by decide +kernel
theorem dX8_unite_44 : decode cX8_unite 44 = .ok (.istore 6, 2) := by decide +kernel
theorem dX8_unite_46 : decode cX8_unite 46 = .ok (.iload 6, 2) := by decide +kernel
theorem dX8_unite_48 : decode cX8_unite 48 = .ok (.istore 7, 2) := by decide +kernel
theorem dX8_unite_50 : decode cX8_unite 50 = .ok (.iload 7, 2) := by decide +kernel
theorem dX8_unite_52 : decode cX8_unite 52 = .ok (.aload_n 0, 1) := by decide +kernel
theorem dX8_unite_53 : decode cX8_unite 53 = .ok (.getfield 9, 3) := by decide +kernel
theorem dX8_unite_56 : decode cX8_unite 56 = .ok (.if_icmp .ge 30, 3) := by decide +kernel
theorem dX8_unite_59 : decode cX8_unite 59 = .ok (.aload_n 0, 1) := by decide +kernel
theorem dX8_unite_60 : decode cX8_unite 60 = .ok (.getfield 28, 3) := by decide +kernel
theorem dX8_unite_63 : decode cX8_unite 63 = .ok (.iload 7, 2) := by decide +kernel
theorem dX8_unite_65 : decode cX8_unite 65 = .ok (.iaload, 1) := by decide +kernel
theorem dX8_unite_66 : decode cX8_unite 66 = .ok (.iload 6, 2) := by decide +kernel
theorem dX8_unite_68 : decode cX8_unite 68 = .ok (.if_icmp .ne 12, 3) := by decide +kernel
theorem dX8_unite_71 : decode cX8_unite 71 = .ok (.aload_n 0, 1) := by decide +kernel
theorem dX8_unite_72 : decode cX8_unite 72 = .ok (.getfield 28, 3) := by decide +kernel
theorem dX8_unite_75 : decode cX8_unite 75 = .ok (.iload 7, 2) := by decide +kernel
theorem dX8_unite_77 : decode cX8_unite 77 = .ok (.iload 5, 2) := by decide +kernel
theorem dX8_unite_79 : decode cX8_unite 79 = .ok (.iastore, 1) := by decide +kernel
theorem dX8_unite_80 : decode cX8_unite 80 = .ok (.iinc 7 1, 3) := by decide +kernel
theorem dX8_unite_83 : decode cX8_unite 83 = .ok (.goto (-33), 3) := by decide +kernel
theorem dX8_unite_86 : decode cX8_unite 86 = .ok (.iconst 1, 1) := by decide +kernel
theorem dX8_unite_87 : decode cX8_unite 87 = .ok (.ireturn, 1) := by decide +kernel
theorem dX8_countClasses_0 : decode cX8_countClasses 0 = .ok (.iconst 0, 1) := by decide +kernel
theorem dX8_countClasses_1 : decode cX8_countClasses 1 = .ok (.istore_n 2, 1) := by decide +kernel
theorem dX8_countClasses_2 : decode cX8_countClasses 2 = .ok (.iconst 0, 1) := by decide +kernel
theorem dX8_countClasses_3 : decode cX8_countClasses 3 = .ok (.istore_n 3, 1) := by decide +kernel
theorem dX8_countClasses_4 : decode cX8_countClasses 4 = .ok (.iload_n 3, 1) := by decide +kernel
theorem dX8_countClasses_5 : decode cX8_countClasses 5 = .ok (.iload_n 1, 1) := by decide +kernel
theorem dX8_countClasses_6 : decode cX8_countClasses 6 = .ok (.if_icmp .ge 30, 3) := by decide +kernel
theorem dX8_countClasses_9 : decode cX8_countClasses 9 = .ok (.iload_n 3, 1) := by decide +kernel
theorem dX8_countClasses_10 : decode cX8_countClasses 10 = .ok (.aload_n 0, 1) := by decide +kernel
theorem dX8_countClasses_11 : decode cX8_countClasses 11 = .ok (.getfield 9, 3) := by decide +kernel
theorem dX8_countClasses_14 : decode cX8_countClasses 14 = .ok (.if_icmp .ge 22, 3) := by decide +kernel
theorem dX8_countClasses_17 : decode cX8_countClasses 17 = .ok (.aload_n 0, 1) := by decide +kernel
theorem dX8_countClasses_18 : decode cX8_countClasses 18 = .ok (.getfield 28, 3) := by decide +kernel
theorem dX8_countClasses_21 : decode cX8_countClasses 21 = .ok (.iload_n 3, 1) := by decide +kernel
theorem dX8_countClasses_22 : decode cX8_countClasses 22 = .ok (.iaload, 1) := by decide +kernel
theorem dX8_countClasses_23 : decode cX8_countClasses 23 = .ok (.iload_n 3, 1) := by decide +kernel
theorem dX8_countClasses_24 : decode cX8_countClasses 24 = .ok (.if_icmp .ne 6, 3) := by decide +kernel
theorem dX8_countClasses_27 : decode cX8_countClasses 27 = .ok (.iinc 2 1, 3) := by decide +kernel
theorem dX8_countClasses_30 : decode cX8_countClasses 30 = .ok (.iinc 3 1, 3) := by decide +kernel
theorem dX8_countClasses_33 : decode cX8_countClasses 33 = .ok (.goto (-29), 3) := by decide +kernel
theorem dX8_countClasses_36 : decode cX8_countClasses 36 = .ok (.iload_n 2, 1) := by decide +kernel
theorem dX8_countClasses_37 : decode cX8_countClasses 37 = .ok (.ireturn, 1) := by decide +kernel
theorem dX8_countIn_0 : decode cX8_countIn 0 = .ok (.iconst 0, 1) := by decide +kernel
theorem dX8_countIn_1 : decode cX8_countIn 1 = .ok (.istore_n 2, 1) := by decide +kernel
theorem dX8_countIn_2 : decode cX8_countIn 2 = .ok (.iconst 0, 1) := by decide +kernel
theorem dX8_countIn_3 : decode cX8_countIn 3 = .ok (.istore_n 3, 1) := by decide +kernel
theorem dX8_countIn_4 : decode cX8_countIn 4 = .ok (.iload_n 3, 1) := by decide +kernel
theorem dX8_countIn_5 : decode cX8_countIn 5 = .ok (.aload_n 0, 1) := by decide +kernel
theorem dX8_countIn_6 : decode cX8_countIn 6 = .ok (.getfield 9, 3) := by decide +kernel
theorem dX8_countIn_9 : decode cX8_countIn 9 = .ok (.if_icmp .ge 22, 3) := by decide +kernel
theorem dX8_countIn_12 : decode cX8_countIn 12 = .ok (.aload_n 0, 1) := by decide +kernel
theorem dX8_countIn_13 : decode cX8_countIn 13 = .ok (.getfield 28, 3) := by decide +kernel
theorem dX8_countIn_16 : decode cX8_countIn 16 = .ok (.iload_n 3, 1) := by decide +kernel
theorem dX8_countIn_17 : decode cX8_countIn 17 = .ok (.iaload, 1) := by decide +kernel
theorem dX8_countIn_18 : decode cX8_countIn 18 = .ok (.iload_n 1, 1) := by decide +kernel
theorem dX8_countIn_19 : decode cX8_countIn 19 = .ok (.if_icmp .ne 6, 3) := by decide +kernel
theorem dX8_countIn_22 : decode cX8_countIn 22 = .ok (.iinc 2 1, 3) := by decide +kernel
theorem dX8_countIn_25 : decode cX8_countIn 25 = .ok (.iinc 3 1, 3) := by decide +kernel
theorem dX8_countIn_28 : decode cX8_countIn 28 = .ok (.goto (-24), 3) := by decide +kernel
theorem dX8_countIn_31 : decode cX8_countIn 31 = .ok (.iload_n 2, 1) := by decide +kernel
theorem dX8_countIn_32 : decode cX8_countIn 32 = .ok (.ireturn, 1) := by decide +kernel
theorem dX8_countUsers_0 : decode cX8_countUsers 0 = .ok (.iconst 0, 1) := by decide +kernel
theorem dX8_countUsers_1 : decode cX8_countUsers 1 = .ok (.istore_n 2, 1) := by decide +kernel
theorem dX8_countUsers_2 : decode cX8_countUsers 2 = .ok (.iconst 0, 1) := by decide +kernel
theorem dX8_countUsers_3 : decode cX8_countUsers 3 = .ok (.istore_n 3, 1) := by decide +kernel
theorem dX8_countUsers_4 : decode cX8_countUsers 4 = .ok (.iload_n 3, 1) := by decide +kernel
theorem dX8_countUsers_5 : decode cX8_countUsers 5 = .ok (.aload_n 0, 1) := by decide +kernel
theorem dX8_countUsers_6 : decode cX8_countUsers 6 = .ok (.getfield 9, 3) := by decide +kernel
theorem dX8_countUsers_9 : decode cX8_countUsers 9 = .ok (.if_icmp .ge 40, 3) := by decide +kernel
theorem dX8_countUsers_12 : decode cX8_countUsers 12 = .ok (.aload_n 0, 1) := by decide +kernel
theorem dX8_countUsers_13 : decode cX8_countUsers 13 = .ok (.aload_n 0, 1) := by decide +kernel
theorem dX8_countUsers_14 : decode cX8_countUsers 14 = .ok (.getfield 19, 3) := by decide +kernel
theorem dX8_countUsers_17 : decode cX8_countUsers 17 = .ok (.iload_n 3, 1) := by decide +kernel
theorem dX8_countUsers_18 : decode cX8_countUsers 18 = .ok (.iaload, 1) := by decide +kernel
theorem dX8_countUsers_19 : decode cX8_countUsers 19 = .ok (.invokevirtual 41, 3) := by decide +kernel
theorem dX8_countUsers_22 : decode cX8_countUsers 22 = .ok (.iload_n 1, 1) := by decide +kernel
theorem dX8_countUsers_23 : decode cX8_countUsers 23 = .ok (.if_icmp .eq 17, 3) := by decide +kernel
theorem dX8_countUsers_26 : decode cX8_countUsers 26 = .ok (.aload_n 0, 1) := by decide +kernel
theorem dX8_countUsers_27 : decode cX8_countUsers 27 = .ok (.aload_n 0, 1) := by decide +kernel
theorem dX8_countUsers_28 : decode cX8_countUsers 28 = .ok (.getfield 22, 3) := by decide +kernel
theorem dX8_countUsers_31 : decode cX8_countUsers 31 = .ok (.iload_n 3, 1) := by decide +kernel
theorem dX8_countUsers_32 : decode cX8_countUsers 32 = .ok (.iaload, 1) := by decide +kernel
theorem dX8_countUsers_33 : decode cX8_countUsers 33 = .ok (.invokevirtual 41, 3) := by decide +kernel
theorem dX8_countUsers_36 : decode cX8_countUsers 36 = .ok (.iload_n 1, 1) := by decide +kernel
theorem dX8_countUsers_37 : decode cX8_countUsers 37 = .ok (.if_icmp .ne 6, 3) := by decide +kernel
theorem dX8_countUsers_40 : decode cX8_countUsers 40 = .ok (.iinc 2 1, 3) := by decide +kernel
theorem dX8_countUsers_43 : decode cX8_countUsers 43 = .ok (.iinc 3 1, 3) := by decide +kernel
theorem dX8_countUsers_46 : decode cX8_countUsers 46 = .ok (.goto (-42), 3) := by decide +kernel
theorem dX8_countUsers_49 : decode cX8_countUsers 49 = .ok (.iload_n 2, 1) := by decide +kernel
theorem dX8_countUsers_50 : decode cX8_countUsers 50 = .ok (.ireturn, 1) := by decide +kernel
theorem dX8_leastGeneration_0 : decode cX8_leastGeneration 0 = .ok (.bipush 9, 2) := by decide +kernel
theorem dX8_leastGeneration_2 : decode cX8_leastGeneration 2 = .ok (.istore_n 2, 1) := by decide +kernel
theorem dX8_leastGeneration_3 : decode cX8_leastGeneration 3 = .ok (.iconst 0, 1) := by decide +kernel
theorem dX8_leastGeneration_4 : decode cX8_leastGeneration 4 = .ok (.istore_n 3, 1) := by decide +kernel
theorem dX8_leastGeneration_5 : decode cX8_leastGeneration 5 = .ok (.iload_n 3, 1) := by decide +kernel
theorem dX8_leastGeneration_6 : decode cX8_leastGeneration 6 = .ok (.aload_n 0, 1) := by decide +kernel
theorem dX8_leastGeneration_7 : decode cX8_leastGeneration 7 = .ok (.getfield 9, 3) := by decide +kernel
theorem dX8_leastGeneration_10 : decode cX8_leastGeneration 10 = .ok (.if_icmp .ge 30, 3) := by decide +kernel
theorem dX8_leastGeneration_13 : decode cX8_leastGeneration 13 = .ok (.aload_n 0, 1) := by decide +kernel
theorem dX8_leastGeneration_14 : decode cX8_leastGeneration 14 = .ok (.getfield 28, 3) := by decide +kernel
theorem dX8_leastGeneration_17 : decode cX8_leastGeneration 17 = .ok (.iload_n 3, 1) := by decide +kernel
theorem dX8_leastGeneration_18 : decode cX8_leastGeneration 18 = .ok (.iaload, 1) := by decide +kernel
theorem dX8_leastGeneration_19 : decode cX8_leastGeneration 19 = .ok (.iload_n 1, 1) := by decide +kernel
theorem dX8_leastGeneration_20 : decode cX8_leastGeneration 20 = .ok (.if_icmp .ne 14, 3) := by decide +kernel
theorem dX8_leastGeneration_23 : decode cX8_leastGeneration 23 = .ok (.iload_n 2, 1) := by decide +kernel
theorem dX8_leastGeneration_24 : decode cX8_leastGeneration 24 = .ok (.aload_n 0, 1) := by decide +kernel
theorem dX8_leastGeneration_25 : decode cX8_leastGeneration 25 = .ok (.getfield 25, 3) := by decide +kernel
theorem dX8_leastGeneration_28 : decode cX8_leastGeneration 28 = .ok (.iload_n 3, 1) := by decide +kernel
theorem dX8_leastGeneration_29 : decode cX8_leastGeneration 29 = .ok (.iaload, 1) := by decide +kernel
theorem dX8_leastGeneration_30 : decode cX8_leastGeneration 30 = .ok (.invokestatic 45, 3) := by decide +kernel
theorem dX8_leastGeneration_33 : decode cX8_leastGeneration 33 = .ok (.istore_n 2, 1) := by decide +kernel
theorem dX8_leastGeneration_34 : decode cX8_leastGeneration 34 = .ok (.iinc 3 1, 3) := by decide +kernel
theorem dX8_leastGeneration_37 : decode cX8_leastGeneration 37 = .ok (.goto (-32), 3) := by decide +kernel
theorem dX8_leastGeneration_40 : decode cX8_leastGeneration 40 = .ok (.iload_n 2, 1) := by decide +kernel
theorem dX8_leastGeneration_41 : decode cX8_leastGeneration 41 = .ok (.ireturn, 1) := by decide +kernel
theorem dX9_init_0 : decode cX9_init 0 = .ok (.aload_n 0, 1) := by decide +kernel
theorem dX9_init_1 : decode cX9_init 1 = .ok (.invokespecial 3, 3) := by decide +kernel
theorem dX9_init_4 : decode cX9_init 4 = .ok (.aload_n 0, 1) := by decide +kernel
theorem dX9_init_5 : decode cX9_init 5 = .ok (.bipush 120, 2) := by decide +kernel
theorem dX9_init_7 : decode cX9_init 7 = .ok (.newarray .int, 2) := by decide +kernel
theorem dX9_init_9 : decode cX9_init 9 = .ok (.putfield 9, 3) := by decide +kernel
theorem dX9_init_12 : decode cX9_init 12 = .ok (.aload_n 0, 1) := by decide +kernel
theorem dX9_init_13 : decode cX9_init 13 = .ok (.iconst 0, 1) := by decide +kernel
theorem dX9_init_14 : decode cX9_init 14 = .ok (.putfield 15, 3) := by decide +kernel
theorem dX9_init_17 : decode cX9_init 17 = .ok (.aload_n 0, 1) := by decide +kernel
theorem dX9_init_18 : decode cX9_init 18 = .ok (.new 19, 3) := by decide +kernel
theorem dX9_init_21 : decode cX9_init 21 = .ok (.dup, 1) := by decide +kernel
theorem dX9_init_22 : decode cX9_init 22 = .ok (.bipush 120, 2) := by decide +kernel
theorem dX9_init_24 : decode cX9_init 24 = .ok (.invokespecial 21, 3) := by decide +kernel
theorem dX9_init_27 : decode cX9_init 27 = .ok (.putfield 24, 3) := by decide +kernel
theorem dX9_init_30 : decode cX9_init 30 = .ok (.aload_n 0, 1) := by decide +kernel
theorem dX9_init_31 : decode cX9_init 31 = .ok (.bipush 120, 2) := by decide +kernel
theorem dX9_init_33 : decode cX9_init 33 = .ok (.newarray .int, 2) := by decide +kernel
theorem dX9_init_35 : decode cX9_init 35 = .ok (.putfield 28, 3) := by decide +kernel
theorem dX9_init_38 : decode cX9_init 38 = .ok (.aload_n 0, 1) := by decide +kernel
theorem dX9_init_39 : decode cX9_init 39 = .ok (.bipush 120, 2) := by decide +kernel
theorem dX9_init_41 : decode cX9_init 41 = .ok (.newarray .int, 2) := by decide +kernel
theorem dX9_init_43 : decode cX9_init 43 = .ok (.putfield 31, 3) := by decide +kernel
theorem dX9_init_46 : decode cX9_init 46 = .ok (.aload_n 0, 1) := by decide +kernel
theorem dX9_init_47 : decode cX9_init 47 = .ok (.iconst 0, 1) := by decide +kernel
theorem dX9_init_48 : decode cX9_init 48 = .ok (.putfield 34, 3) := by decide +kernel
theorem dX9_init_51 : decode cX9_init 51 = .ok (.aload_n 0, 1) := by decide +kernel
theorem dX9_init_52 : decode cX9_init 52 = .ok (.iconst 0, 1) := by decide +kernel
theorem dX9_init_53 : decode cX9_init 53 = .ok (.putfield 37, 3) := by decide +kernel
theorem dX9_init_56 : decode cX9_init 56 = .ok (.aload_n 0, 1) := by decide +kernel
theorem dX9_init_57 : decode cX9_init 57 = .ok (.aload_n 1, 1) := by decide +kernel
theorem dX9_init_58 : decode cX9_init 58 = .ok (.putfield 40, 3) := by decide +kernel
theorem dX9_init_61 : decode cX9_init 61 = .ok (.aload_n 0, 1) := by decide +kernel
theorem dX9_init_62 : decode cX9_init 62 = .ok (.aload_n 2, 1) := by decide +kernel
theorem dX9_init_63 : decode cX9_init 63 = .ok (.putfield 44, 3) := by decide +kernel
theorem dX9_init_66 : decode cX9_init 66 = .ok (.return_, 1) := by decide +kernel
theorem dX9_read_0 : decode cX9_read 0 = .ok (.aload_n 0, 1) := by decide +kernel
theorem dX9_read_1 : decode cX9_read 1 = .ok (.iconst 0, 1) := by decide +kernel
theorem dX9_read_2 : decode cX9_read 2 = .ok (.putfield 37, 3) := by decide +kernel
theorem dX9_read_5 : decode cX9_read 5 = .ok (.iconst 0, 1) := by decide +kernel
theorem dX9_read_6 : decode cX9_read 6 = .ok (.istore_n 1, 1) := by decide +kernel
theorem dX9_read_7 : decode cX9_read 7 = .ok (.iload_n 1, 1) := by decide +kernel
theorem dX9_read_8 : decode cX9_read 8 = .ok (.bipush 120, 2) := by decide +kernel
theorem dX9_read_10 : decode cX9_read 10 = .ok (.if_icmp .ge 32, 3) := by decide +kernel
theorem dX9_read_13 : decode cX9_read 13 = .ok (.aload_n 0, 1) := by decide +kernel
theorem dX9_read_14 : decode cX9_read 14 = .ok (.invokevirtual 48, 3) := by decide +kernel
theorem dX9_read_17 : decode cX9_read 17 = .ok (.iconst (-1), 1) := by decide +kernel
theorem dX9_read_18 : decode cX9_read 18 = .ok (.if_icmp .eq 24, 3) := by decide +kernel
theorem dX9_read_21 : decode cX9_read 21 = .ok (.aload_n 0, 1) := by decide +kernel
theorem dX9_read_22 : decode cX9_read 22 = .ok (.invokevirtual 52, 3) := by decide +kernel
theorem dX9_read_25 : decode cX9_read 25 = .ok (.ifCond .ne 11, 3) := by decide +kernel
theorem dX9_read_28 : decode cX9_read 28 = .ok (.bipush (-10), 2) := by decide +kernel
theorem dX9_read_30 : decode cX9_read 30 = .ok (.aload_n 0, 1) := by decide +kernel
theorem dX9_read_31 : decode cX9_read 31 = .ok (.getfield 37, 3) := by decide +kernel
theorem dX9_read_34 : decode cX9_read 34 = .ok (.isub, 1) := by decide +kernel
theorem dX9_read_35 : decode cX9_read 35 = .ok (.ireturn, 1) := by decide +kernel
theorem dX9_read_36 : decode cX9_read 36 = .ok (.iinc 1 1, 3) := by decide +kernel
theorem dX9_read_39 : decode cX9_read 39 = .ok (.goto (-32), 3) := by decide +kernel
theorem dX9_read_42 : decode cX9_read 42 = .ok (.iload_n 1, 1) := by decide +kernel
theorem dX9_read_43 : decode cX9_read 43 = .ok (.ifCond .ne 13, 3) := by decide +kernel
theorem dX9_read_46 : decode cX9_read 46 = .ok (.bipush (-10), 2) := by decide +kernel
theorem dX9_read_48 : decode cX9_read 48 = .ok (.aload_n 0, 1) := by decide +kernel
theorem dX9_read_49 : decode cX9_read 49 = .ok (.getfield 37, 3) := by decide +kernel
theorem dX9_read_52 : decode cX9_read 52 = .ok (.isub, 1) := by decide +kernel
theorem dX9_read_53 : decode cX9_read 53 = .ok (.goto 4, 3) := by decide +kernel
theorem dX9_read_56 : decode cX9_read 56 = .ok (.iload_n 1, 1) := by decide +kernel
theorem dX9_read_57 : decode cX9_read 57 = .ok (.ireturn, 1) := by decide +kernel
theorem dX9_peek_0 : decode cX9_peek 0 = .ok (.aload_n 0, 1) := by decide +kernel
theorem dX9_peek_1 : decode cX9_peek 1 = .ok (.getfield 37, 3) := by decide +kernel
theorem dX9_peek_4 : decode cX9_peek 4 = .ok (.aload_n 0, 1) := by decide +kernel
theorem dX9_peek_5 : decode cX9_peek 5 = .ok (.getfield 15, 3) := by decide +kernel
theorem dX9_peek_8 : decode cX9_peek 8 = .ok (.if_icmp .ge 30, 3) := by decide +kernel
theorem dX9_peek_11 : decode cX9_peek 11 = .ok (.aload_n 0, 1) := by decide +kernel
theorem dX9_peek_12 : decode cX9_peek 12 = .ok (.getfield 9, 3) := by decide +kernel
theorem dX9_peek_15 : decode cX9_peek 15 = .ok (.aload_n 0, 1) := by decide +kernel
theorem dX9_peek_16 : decode cX9_peek 16 = .ok (.getfield 37, 3) := by decide +kernel
theorem dX9_peek_19 : decode cX9_peek 19 = .ok (.iaload, 1) := by decide +kernel
theorem dX9_peek_20 : decode cX9_peek 20 = .ok (.bipush 32, 2) := by decide +kernel
theorem dX9_peek_22 : decode cX9_peek 22 = .ok (.if_icmp .ne 16, 3) := by decide +kernel
theorem dX9_peek_25 : decode cX9_peek 25 = .ok (.aload_n 0, 1) := by decide +kernel
theorem dX9_peek_26 : decode cX9_peek 26 = .ok (.dup, 1) := by decide +kernel
theorem dX9_peek_27 : decode cX9_peek 27 = .ok (.getfield 37, 3) := by decide +kernel
theorem dX9_peek_30 : decode cX9_peek 30 = .ok (.iconst 1, 1) := by decide +kernel
theorem dX9_peek_31 : decode cX9_peek 31 = .ok (.iadd, 1) := by decide +kernel
theorem dX9_peek_32 : decode cX9_peek 32 = .ok (.putfield 37, 3) := by decide +kernel
theorem dX9_peek_35 : decode cX9_peek 35 = .ok (.goto (-35), 3) := by decide +kernel
theorem dX9_peek_38 : decode cX9_peek 38 = .ok (.aload_n 0, 1) := by decide +kernel
theorem dX9_peek_39 : decode cX9_peek 39 = .ok (.getfield 37, 3) := by decide +kernel
theorem dX9_peek_42 : decode cX9_peek 42 = .ok (.aload_n 0, 1) := by decide +kernel
theorem dX9_peek_43 : decode cX9_peek 43 = .ok (.getfield 15, 3) := by decide +kernel
theorem dX9_peek_46 : decode cX9_peek 46 = .ok (.if_icmp .ge 15, 3) := by decide +kernel
theorem dX9_peek_49 : decode cX9_peek 49 = .ok (.aload_n 0, 1) := by decide +kernel
theorem dX9_peek_50 : decode cX9_peek 50 = .ok (.getfield 9, 3) := by decide +kernel
theorem dX9_peek_53 : decode cX9_peek 53 = .ok (.aload_n 0, 1) := by decide +kernel
theorem dX9_peek_54 : decode cX9_peek 54 = .ok (.getfield 37, 3) := by decide +kernel
theorem dX9_peek_57 : decode cX9_peek 57 = .ok (.iaload, 1) := by decide +kernel
theorem dX9_peek_58 : decode cX9_peek 58 = .ok (.goto 4, 3) := by decide +kernel
theorem dX9_peek_61 : decode cX9_peek 61 = .ok (.iconst (-1), 1) := by decide +kernel
theorem dX9_peek_62 : decode cX9_peek 62 = .ok (.ireturn, 1) := by decide +kernel
theorem dX9_take_0 : decode cX9_take 0 = .ok (.aload_n 0, 1) := by decide +kernel
theorem dX9_take_1 : decode cX9_take 1 = .ok (.invokevirtual 48, 3) := by decide +kernel
theorem dX9_take_4 : decode cX9_take 4 = .ok (.iload_n 1, 1) := by decide +kernel
theorem dX9_take_5 : decode cX9_take 5 = .ok (.if_icmp .eq 5, 3) := by decide +kernel
theorem dX9_take_8 : decode cX9_take 8 = .ok (.iconst 0, 1) := by decide +kernel
theorem dX9_take_9 : decode cX9_take 9 = .ok (.ireturn, 1) := by decide +kernel
theorem dX9_take_10 : decode cX9_take 10 = .ok (.aload_n 0, 1) := by decide +kernel
theorem dX9_take_11 : decode cX9_take 11 = .ok (.dup, 1) := by decide +kernel
theorem dX9_take_12 : decode cX9_take 12 = .ok (.getfield 37, 3) := by decide +kernel
theorem dX9_take_15 : decode cX9_take 15 = .ok (.iconst 1, 1) := by decide +kernel
theorem dX9_take_16 : decode cX9_take 16 = .ok (.iadd, 1) := by decide +kernel
theorem dX9_take_17 : decode cX9_take 17 = .ok (.putfield 37, 3) := by decide +kernel
theorem dX9_take_20 : decode cX9_take 20 = .ok (.iconst 1, 1) := by decide +kernel
theorem dX9_take_21 : decode cX9_take 21 = .ok (.ireturn, 1) := by decide +kernel
theorem dX9_sentence_0 : decode cX9_sentence 0 = .ok (.aload_n 0, 1) := by decide +kernel
theorem dX9_sentence_1 : decode cX9_sentence 1 = .ok (.getfield 24, 3) := by decide +kernel
theorem dX9_sentence_4 : decode cX9_sentence 4 = .ok (.invokevirtual 56, 3) := by decide +kernel
theorem dX9_sentence_7 : decode cX9_sentence 7 = .ok (.aload_n 0, 1) := by decide +kernel
theorem dX9_sentence_8 : decode cX9_sentence 8 = .ok (.bipush 7, 2) := by decide +kernel
theorem dX9_sentence_10 : decode cX9_sentence 10 = .ok (.invokevirtual 59, 3) := by decide +kernel
theorem dX9_sentence_13 : decode cX9_sentence 13 = .ok (.ifCond .ne 5, 3) := by decide +kernel
theorem dX9_sentence_16 : decode cX9_sentence 16 = .ok (.iconst 0, 1) := by decide +kernel
theorem dX9_sentence_17 : decode cX9_sentence 17 = .ok (.ireturn, 1) := by decide +kernel
theorem dX9_sentence_18 : decode cX9_sentence 18 = .ok (.aload_n 0, 1) := by decide +kernel
theorem dX9_sentence_19 : decode cX9_sentence 19 = .ok (.getfield 24, 3) := by decide +kernel
theorem dX9_sentence_22 : decode cX9_sentence 22 = .ok (.aload_n 0, 1) := by decide +kernel
theorem dX9_sentence_23 : decode cX9_sentence 23 = .ok (.getfield 24, 3) := by decide +kernel
theorem dX9_sentence_26 : decode cX9_sentence 26 = .ok (.getfield 63, 3) := by decide +kernel
theorem dX9_sentence_29 : decode cX9_sentence 29 = .ok (.putfield 66, 3) := by decide +kernel
theorem dX9_sentence_32 : decode cX9_sentence 32 = .ok (.aload_n 0, 1) := by decide +kernel
theorem dX9_sentence_33 : decode cX9_sentence 33 = .ok (.getfield 24, 3) := by decide +kernel
theorem dX9_sentence_36 : decode cX9_sentence 36 = .ok (.iconst 0, 1) := by decide +kernel
theorem dX9_sentence_37 : decode cX9_sentence 37 = .ok (.aload_n 0, 1) := by decide +kernel
theorem dX9_sentence_38 : decode cX9_sentence 38 = .ok (.getfield 24, 3) := by decide +kernel
theorem dX9_sentence_41 : decode cX9_sentence 41 = .ok (.getfield 66, 3) := by decide +kernel
theorem dX9_sentence_44 : decode cX9_sentence 44 = .ok (.invokevirtual 69, 3) := by decide +kernel
theorem dX9_sentence_47 : decode cX9_sentence 47 = .ok (.istore_n 1, 1) := by decide +kernel
theorem dX9_sentence_48 : decode cX9_sentence 48 = .ok (.aload_n 0, 1) := by decide +kernel
theorem dX9_sentence_49 : decode cX9_sentence 49 = .ok (.invokevirtual 48, 3) := by decide +kernel
theorem dX9_sentence_52 : decode cX9_sentence 52 = .ok (.bipush 62, 2) := by decide +kernel
theorem dX9_sentence_54 : decode cX9_sentence 54 = .ok (.if_icmp .ne 9, 3) := by decide +kernel
theorem dX9_sentence_57 : decode cX9_sentence 57 = .ok (.aload_n 0, 1) := by decide +kernel
theorem dX9_sentence_58 : decode cX9_sentence 58 = .ok (.iload_n 1, 1) := by decide +kernel
theorem dX9_sentence_59 : decode cX9_sentence 59 = .ok (.invokevirtual 73, 3) := by decide +kernel
theorem dX9_sentence_62 : decode cX9_sentence 62 = .ok (.ireturn, 1) := by decide +kernel
theorem dX9_sentence_63 : decode cX9_sentence 63 = .ok (.iload_n 1, 1) := by decide +kernel
theorem dX9_sentence_64 : decode cX9_sentence 64 = .ok (.ifCond .eq 5, 3) := by decide +kernel
theorem dX9_sentence_67 : decode cX9_sentence 67 = .ok (.iconst 0, 1) := by decide +kernel
theorem dX9_sentence_68 : decode cX9_sentence 68 = .ok (.ireturn, 1) := by decide +kernel
theorem dX9_sentence_69 : decode cX9_sentence 69 = .ok (.aload_n 0, 1) := by decide +kernel
theorem dX9_sentence_70 : decode cX9_sentence 70 = .ok (.bipush 61, 2) := by decide +kernel
theorem dX9_sentence_72 : decode cX9_sentence 72 = .ok (.invokevirtual 76, 3) := by decide +kernel
theorem dX9_sentence_75 : decode cX9_sentence 75 = .ok (.ifCond .eq 14, 3) := by decide +kernel
theorem dX9_sentence_78 : decode cX9_sentence 78 = .ok (.aload_n 0, 1) := by decide +kernel
theorem dX9_sentence_79 : decode cX9_sentence 79 = .ok (.bipush 7, 2) := by decide +kernel
theorem dX9_sentence_81 : decode cX9_sentence 81 = .ok (.invokevirtual 59, 3) := by decide +kernel
theorem dX9_sentence_84 : decode cX9_sentence 84 = .ok (.ifCond .ne 5, 3) := by decide +kernel
theorem dX9_sentence_87 : decode cX9_sentence 87 = .ok (.iconst 0, 1) := by decide +kernel
theorem dX9_sentence_88 : decode cX9_sentence 88 = .ok (.ireturn, 1) := by decide +kernel
theorem dX9_sentence_89 : decode cX9_sentence 89 = .ok (.aload_n 0, 1) := by decide +kernel
theorem dX9_sentence_90 : decode cX9_sentence 90 = .ok (.invokevirtual 79, 3) := by decide +kernel
theorem dX9_sentence_93 : decode cX9_sentence 93 = .ok (.ireturn, 1) := by decide +kernel
theorem dX9_ruleSentence_0 : decode cX9_ruleSentence 0 = .ok (.aload_n 0, 1) := by decide +kernel
theorem dX9_ruleSentence_1 : decode cX9_ruleSentence 1 = .ok (.getfield 24, 3) := by decide +kernel
theorem dX9_ruleSentence_4 : decode cX9_ruleSentence 4 = .ok (.getfield 66, 3) := by decide +kernel
theorem dX9_ruleSentence_7 : decode cX9_ruleSentence 7 = .ok (.iconst 1, 1) := by decide +kernel
theorem dX9_ruleSentence_8 : decode cX9_ruleSentence 8 = .ok (.if_icmp .ne 11, 3) := by decide +kernel
theorem dX9_ruleSentence_11 : decode cX9_ruleSentence 11 = .ok (.iload_n 1, 1) := by decide +kernel
theorem dX9_ruleSentence_12 : decode cX9_ruleSentence 12 = .ok (.ifCond .eq 7, 3) := by decide +kernel
theorem dX9_ruleSentence_15 : decode cX9_ruleSentence 15 = .ok (.iconst 1, 1) := by decide +kernel
theorem dX9_ruleSentence_16 : decode cX9_ruleSentence 16 = .ok (.goto 4, 3) := by decide +kernel
theorem dX9_ruleSentence_19 : decode cX9_ruleSentence 19 = .ok (.iconst 0, 1) := by decide +kernel
theorem dX9_ruleSentence_20 : decode cX9_ruleSentence 20 = .ok (.istore_n 2, 1) := by decide +kernel
theorem dX9_ruleSentence_21 : decode cX9_ruleSentence 21 = .ok (.iload_n 2, 1) := by decide +kernel
theorem dX9_ruleSentence_22 : decode cX9_ruleSentence 22 = .ok (.ifCond .ne 24, 3) := by decide +kernel
theorem dX9_ruleSentence_25 : decode cX9_ruleSentence 25 = .ok (.aload_n 0, 1) := by decide +kernel
theorem dX9_ruleSentence_26 : decode cX9_ruleSentence 26 = .ok (.getfield 40, 3) := by decide +kernel
theorem dX9_ruleSentence_29 : decode cX9_ruleSentence 29 = .ok (.getfield 82, 3) := by decide +kernel
theorem dX9_ruleSentence_32 : decode cX9_ruleSentence 32 = .ok (.bipush 6, 2) := by decide +kernel
theorem dX9_ruleSentence_34 : decode cX9_ruleSentence 34 = .ok (.if_icmp .ge 12, 3) := by decide +kernel
theorem dX9_ruleSentence_37 : decode cX9_ruleSentence 37 = .ok (.aload_n 0, 1) := by decide +kernel
theorem dX9_ruleSentence_38 : decode cX9_ruleSentence 38 = .ok (.bipush 62, 2) := by decide +kernel
theorem dX9_ruleSentence_40 : decode cX9_ruleSentence 40 = .ok (.invokevirtual 76, 3) := by decide +kernel
theorem dX9_ruleSentence_43 : decode cX9_ruleSentence 43 = .ok (.ifCond .ne 5, 3) := by decide +kernel
theorem dX9_ruleSentence_46 : decode cX9_ruleSentence 46 = .ok (.iconst 0, 1) := by decide +kernel
theorem dX9_ruleSentence_47 : decode cX9_ruleSentence 47 = .ok (.ireturn, 1) := by decide +kernel
theorem dX9_ruleSentence_48 : decode cX9_ruleSentence 48 = .ok (.aload_n 0, 1) := by decide +kernel
theorem dX9_ruleSentence_49 : decode cX9_ruleSentence 49 = .ok (.iload_n 1, 1) := by decide +kernel
theorem dX9_ruleSentence_50 : decode cX9_ruleSentence 50 = .ok (.invokevirtual 59, 3) := by decide +kernel
theorem dX9_ruleSentence_53 : decode cX9_ruleSentence 53 = .ok (.ifCond .eq 12, 3) := by decide +kernel
theorem dX9_ruleSentence_56 : decode cX9_ruleSentence 56 = .ok (.aload_n 0, 1) := by decide +kernel
theorem dX9_ruleSentence_57 : decode cX9_ruleSentence 57 = .ok (.bipush 59, 2) := by decide +kernel
theorem dX9_ruleSentence_59 : decode cX9_ruleSentence 59 = .ok (.invokevirtual 76, 3) := by decide +kernel
theorem dX9_ruleSentence_62 : decode cX9_ruleSentence 62 = .ok (.ifCond .ne 5, 3) := by decide +kernel
theorem dX9_ruleSentence_65 : decode cX9_ruleSentence 65 = .ok (.iconst 0, 1) := by decide +kernel
theorem dX9_ruleSentence_66 : decode cX9_ruleSentence 66 = .ok (.ireturn, 1) := by decide +kernel
theorem dX9_ruleSentence_67 : decode cX9_ruleSentence 67 = .ok (.aload_n 0, 1) := by decide +kernel
theorem dX9_ruleSentence_68 : decode cX9_ruleSentence 68 = .ok (.getfield 40, 3) := by decide +kernel
theorem dX9_ruleSentence_71 : decode cX9_ruleSentence 71 = .ok (.aload_n 0, 1) := by decide +kernel
theorem dX9_ruleSentence_72 : decode cX9_ruleSentence 72 = .ok (.getfield 24, 3) := by decide +kernel
theorem dX9_ruleSentence_75 : decode cX9_ruleSentence 75 = .ok (.invokevirtual 87, 3) := by decide +kernel
theorem dX9_ruleSentence_78 : decode cX9_ruleSentence 78 = .ok (.invokevirtual 91, 3) := by decide +kernel
theorem dX9_ruleSentence_81 : decode cX9_ruleSentence 81 = .ok (.iconst 1, 1) := by decide +kernel
theorem dX9_ruleSentence_82 : decode cX9_ruleSentence 82 = .ok (.ireturn, 1) := by decide +kernel
theorem dX9_termSentence_0 : decode cX9_termSentence 0 = .ok (.aload_n 0, 1) := by decide +kernel
theorem dX9_termSentence_1 : decode cX9_termSentence 1 = .ok (.invokevirtual 48, 3) := by decide +kernel
theorem dX9_termSentence_4 : decode cX9_termSentence 4 = .ok (.bipush 59, 2) := by decide +kernel
theorem dX9_termSentence_6 : decode cX9_termSentence 6 = .ok (.if_icmp .ne 21, 3) := by decide +kernel
theorem dX9_termSentence_9 : decode cX9_termSentence 9 = .ok (.aload_n 0, 1) := by decide +kernel
theorem dX9_termSentence_10 : decode cX9_termSentence 10 = .ok (.getfield 24, 3) := by decide +kernel
theorem dX9_termSentence_13 : decode cX9_termSentence 13 = .ok (.iconst 0, 1) := by decide +kernel
theorem dX9_termSentence_14 : decode cX9_termSentence 14 = .ok (.aload_n 0, 1) := by decide +kernel
theorem dX9_termSentence_15 : decode cX9_termSentence 15 = .ok (.getfield 24, 3) := by decide +kernel
theorem dX9_termSentence_18 : decode cX9_termSentence 18 = .ok (.getfield 63, 3) := by decide +kernel
theorem dX9_termSentence_21 : decode cX9_termSentence 21 = .ok (.invokevirtual 69, 3) := by decide +kernel
theorem dX9_termSentence_24 : decode cX9_termSentence 24 = .ok (.ifCond .eq 5, 3) := by decide +kernel
theorem dX9_termSentence_27 : decode cX9_termSentence 27 = .ok (.iconst 0, 1) := by decide +kernel
theorem dX9_termSentence_28 : decode cX9_termSentence 28 = .ok (.ireturn, 1) := by decide +kernel
theorem dX9_termSentence_29 : decode cX9_termSentence 29 = .ok (.aload_n 0, 1) := by decide +kernel
theorem dX9_termSentence_30 : decode cX9_termSentence 30 = .ok (.getfield 44, 3) := by decide +kernel
theorem dX9_termSentence_33 : decode cX9_termSentence 33 = .ok (.aload_n 0, 1) := by decide +kernel
theorem dX9_termSentence_34 : decode cX9_termSentence 34 = .ok (.getfield 24, 3) := by decide +kernel
theorem dX9_termSentence_37 : decode cX9_termSentence 37 = .ok (.iconst 0, 1) := by decide +kernel
theorem dX9_termSentence_38 : decode cX9_termSentence 38 = .ok (.aload_n 0, 1) := by decide +kernel
theorem dX9_termSentence_39 : decode cX9_termSentence 39 = .ok (.getfield 24, 3) := by decide +kernel
theorem dX9_termSentence_42 : decode cX9_termSentence 42 = .ok (.getfield 63, 3) := by decide +kernel
theorem dX9_termSentence_45 : decode cX9_termSentence 45 = .ok (.iconst 0, 1) := by decide +kernel
theorem dX9_termSentence_46 : decode cX9_termSentence 46 = .ok (.invokevirtual 95, 3) := by decide +kernel
theorem dX9_termSentence_49 : decode cX9_termSentence 49 = .ok (.iconst (-1), 1) := by decide +kernel
theorem dX9_termSentence_50 : decode cX9_termSentence 50 = .ok (.if_icmp .ne 5, 3) := by decide +kernel
theorem dX9_termSentence_53 : decode cX9_termSentence 53 = .ok (.iconst 0, 1) := by decide +kernel
theorem dX9_termSentence_54 : decode cX9_termSentence 54 = .ok (.ireturn, 1) := by decide +kernel
theorem dX9_termSentence_55 : decode cX9_termSentence 55 = .ok (.aload_n 0, 1) := by decide +kernel
theorem dX9_termSentence_56 : decode cX9_termSentence 56 = .ok (.getfield 40, 3) := by decide +kernel
theorem dX9_termSentence_59 : decode cX9_termSentence 59 = .ok (.getfield 101, 3) := by decide +kernel
theorem dX9_termSentence_62 : decode cX9_termSentence 62 = .ok (.astore_n 1, 1) := by decide +kernel
theorem dX9_termSentence_63 : decode cX9_termSentence 63 = .ok (.iconst 0, 1) := by decide +kernel
theorem dX9_termSentence_64 : decode cX9_termSentence 64 = .ok (.istore_n 2, 1) := by decide +kernel
theorem dX9_termSentence_65 : decode cX9_termSentence 65 = .ok (.iload_n 2, 1) := by decide +kernel
theorem dX9_termSentence_66 : decode cX9_termSentence 66 = .ok (.aload_n 0, 1) := by decide +kernel
theorem dX9_termSentence_67 : decode cX9_termSentence 67 = .ok (.getfield 24, 3) := by decide +kernel
theorem dX9_termSentence_70 : decode cX9_termSentence 70 = .ok (.getfield 63, 3) := by decide +kernel
theorem dX9_termSentence_73 : decode cX9_termSentence 73 = .ok (.if_icmp .ge 33, 3) := by decide +kernel
theorem dX9_termSentence_76 : decode cX9_termSentence 76 = .ok (.aload_n 0, 1) := by decide +kernel
theorem dX9_termSentence_77 : decode cX9_termSentence 77 = .ok (.getfield 44, 3) := by decide +kernel
theorem dX9_termSentence_80 : decode cX9_termSentence 80 = .ok (.iload_n 2, 1) := by decide +kernel
theorem dX9_termSentence_81 : decode cX9_termSentence 81 = .ok (.invokevirtual 105, 3) := by decide +kernel
theorem dX9_termSentence_84 : decode cX9_termSentence 84 = .ok (.istore_n 3, 1) := by decide +kernel
theorem dX9_termSentence_85 : decode cX9_termSentence 85 = .ok (.aload_n 1, 1) := by decide +kernel
theorem dX9_termSentence_86 : decode cX9_termSentence 86 = .ok (.iload_n 3, 1) := by decide +kernel
theorem dX9_termSentence_87 : decode cX9_termSentence 87 = .ok (.invokevirtual 109, 3) := by decide +kernel
end
section
theorem dX9_termSentence_90 : decode cX9_termSentence 90 = .ok (.ifCond .eq 10, 3) := by decide +kernel
theorem dX9_termSentence_93 : decode cX9_termSentence 93 = .ok (.aload_n 1, 1) := by decide +kernel
theorem dX9_termSentence_94 : decode cX9_termSentence 94 = .ok (.getfield 114, 3) := by decide +kernel
theorem dX9_termSentence_97 : decode cX9_termSentence 97 = .ok (.iload_n 3, 1) := by decide +kernel
theorem dX9_termSentence_98 : decode cX9_termSentence 98 = .ok (.iconst 0, 1) := by decide +kernel
theorem dX9_termSentence_99 : decode cX9_termSentence 99 = .ok (.iastore, 1) := by decide +kernel
theorem dX9_termSentence_100 : decode cX9_termSentence 100 = .ok (.iinc 2 1, 3) := by decide +kernel
theorem dX9_termSentence_103 : decode cX9_termSentence 103 = .ok (.goto (-38), 3) := by decide +kernel
theorem dX9_termSentence_106 : decode cX9_termSentence 106 = .ok (.aload_n 1, 1) := by decide +kernel
theorem dX9_termSentence_107 : decode cX9_termSentence 107 = .ok (.aload_n 0, 1) := by decide +kernel
theorem dX9_termSentence_108 : decode cX9_termSentence 108 = .ok (.getfield 44, 3) := by decide +kernel
theorem dX9_termSentence_111 : decode cX9_termSentence 111 = .ok (.aload_n 0, 1) := by decide +kernel
theorem dX9_termSentence_112 : decode cX9_termSentence 112 = .ok (.getfield 24, 3) := by decide +kernel
theorem dX9_termSentence_115 : decode cX9_termSentence 115 = .ok (.getfield 66, 3) := by decide +kernel
theorem dX9_termSentence_118 : decode cX9_termSentence 118 = .ok (.iconst 1, 1) := by decide +kernel
theorem dX9_termSentence_119 : decode cX9_termSentence 119 = .ok (.isub, 1) := by decide +kernel
theorem dX9_termSentence_120 : decode cX9_termSentence 120 = .ok (.invokevirtual 105, 3) := by decide +kernel
theorem dX9_termSentence_123 : decode cX9_termSentence 123 = .ok (.aload_n 0, 1) := by decide +kernel
theorem dX9_termSentence_124 : decode cX9_termSentence 124 = .ok (.getfield 44, 3) := by decide +kernel
theorem dX9_termSentence_127 : decode cX9_termSentence 127 = .ok (.aload_n 0, 1) := by decide +kernel
theorem dX9_termSentence_128 : decode cX9_termSentence 128 = .ok (.getfield 24, 3) := by decide +kernel
theorem dX9_termSentence_131 : decode cX9_termSentence 131 = .ok (.getfield 63, 3) := by decide +kernel
theorem dX9_termSentence_134 : decode cX9_termSentence 134 = .ok (.iconst 1, 1) := by decide +kernel
theorem dX9_termSentence_135 : decode cX9_termSentence 135 = .ok (.isub, 1) := by decide +kernel
theorem dX9_termSentence_136 : decode cX9_termSentence 136 = .ok (.invokevirtual 105, 3) := by decide +kernel
theorem dX9_termSentence_139 : decode cX9_termSentence 139 = .ok (.invokevirtual 117, 3) := by decide +kernel
theorem dX9_termSentence_142 : decode cX9_termSentence 142 = .ok (.pop, 1) := by decide +kernel
theorem dX9_termSentence_143 : decode cX9_termSentence 143 = .ok (.aload_n 0, 1) := by decide +kernel
theorem dX9_termSentence_144 : decode cX9_termSentence 144 = .ok (.bipush 59, 2) := by decide +kernel
theorem dX9_termSentence_146 : decode cX9_termSentence 146 = .ok (.invokevirtual 76, 3) := by decide +kernel
theorem dX9_termSentence_149 : decode cX9_termSentence 149 = .ok (.ireturn, 1) := by decide +kernel
theorem dX9_readSide_0 : decode cX9_readSide 0 = .ok (.aload_n 0, 1) := by decide +kernel
theorem dX9_readSide_1 : decode cX9_readSide 1 = .ok (.iconst 0, 1) := by decide +kernel
theorem dX9_readSide_2 : decode cX9_readSide 2 = .ok (.putfield 34, 3) := by decide +kernel
theorem dX9_readSide_5 : decode cX9_readSide 5 = .ok (.iconst 0, 1) := by decide +kernel
theorem dX9_readSide_6 : decode cX9_readSide 6 = .ok (.istore_n 2, 1) := by decide +kernel
theorem dX9_readSide_7 : decode cX9_readSide 7 = .ok (.iload_n 2, 1) := by decide +kernel
theorem dX9_readSide_8 : decode cX9_readSide 8 = .ok (.bipush 120, 2) := by decide +kernel
theorem dX9_readSide_10 : decode cX9_readSide 10 = .ok (.if_icmp .gt 109, 3) := by decide +kernel
theorem dX9_readSide_13 : decode cX9_readSide 13 = .ok (.aload_n 0, 1) := by decide +kernel
theorem dX9_readSide_14 : decode cX9_readSide 14 = .ok (.invokevirtual 48, 3) := by decide +kernel
theorem dX9_readSide_17 : decode cX9_readSide 17 = .ok (.invokestatic 121, 3) := by decide +kernel
theorem dX9_readSide_20 : decode cX9_readSide 20 = .ok (.istore_n 3, 1) := by decide +kernel
theorem dX9_readSide_21 : decode cX9_readSide 21 = .ok (.iload_n 3, 1) := by decide +kernel
theorem dX9_readSide_22 : decode cX9_readSide 22 = .ok (.iconst (-1), 1) := by decide +kernel
theorem dX9_readSide_23 : decode cX9_readSide 23 = .ok (.if_icmp .eq 20, 3) := by decide +kernel
theorem dX9_readSide_26 : decode cX9_readSide 26 = .ok (.iload_n 3, 1) := by decide +kernel
theorem dX9_readSide_27 : decode cX9_readSide 27 = .ok (.bipush 7, 2) := by decide +kernel
theorem dX9_readSide_29 : decode cX9_readSide 29 = .ok (.if_icmp .lt 16, 3) := by decide +kernel
theorem dX9_readSide_32 : decode cX9_readSide 32 = .ok (.iload_n 1, 1) := by decide +kernel
theorem dX9_readSide_33 : decode cX9_readSide 33 = .ok (.iload_n 3, 1) := by decide +kernel
theorem dX9_readSide_34 : decode cX9_readSide 34 = .ok (.bipush 7, 2) := by decide +kernel
theorem dX9_readSide_36 : decode cX9_readSide 36 = .ok (.isub, 1) := by decide +kernel
theorem dX9_readSide_37 : decode cX9_readSide 37 = .ok (.ishr, 1) := by decide +kernel
theorem dX9_readSide_38 : decode cX9_readSide 38 = .ok (.iconst 1, 1) := by decide +kernel
theorem dX9_readSide_39 : decode cX9_readSide 39 = .ok (.iand, 1) := by decide +kernel
theorem dX9_readSide_40 : decode cX9_readSide 40 = .ok (.ifCond .ne 5, 3) := by decide +kernel
theorem dX9_readSide_43 : decode cX9_readSide 43 = .ok (.iconst 0, 1) := by decide +kernel
theorem dX9_readSide_44 : decode cX9_readSide 44 = .ok (.ireturn, 1) := by decide +kernel
theorem dX9_readSide_45 : decode cX9_readSide 45 = .ok (.aload_n 0, 1) := by decide +kernel
theorem dX9_readSide_46 : decode cX9_readSide 46 = .ok (.dup, 1) := by decide +kernel
theorem dX9_readSide_47 : decode cX9_readSide 47 = .ok (.getfield 37, 3) := by decide +kernel
theorem dX9_readSide_50 : decode cX9_readSide 50 = .ok (.iconst 1, 1) := by decide +kernel
theorem dX9_readSide_51 : decode cX9_readSide 51 = .ok (.iadd, 1) := by decide +kernel
theorem dX9_readSide_52 : decode cX9_readSide 52 = .ok (.putfield 37, 3) := by decide +kernel
theorem dX9_readSide_55 : decode cX9_readSide 55 = .ok (.iload_n 3, 1) := by decide +kernel
theorem dX9_readSide_56 : decode cX9_readSide 56 = .ok (.iconst 4, 1) := by decide +kernel
theorem dX9_readSide_57 : decode cX9_readSide 57 = .ok (.if_icmp .lt 28, 3) := by decide +kernel
theorem dX9_readSide_60 : decode cX9_readSide 60 = .ok (.iload_n 3, 1) := by decide +kernel
theorem dX9_readSide_61 : decode cX9_readSide 61 = .ok (.bipush 6, 2) := by decide +kernel
theorem dX9_readSide_63 : decode cX9_readSide 63 = .ok (.if_icmp .gt 22, 3) := by decide +kernel
theorem dX9_readSide_66 : decode cX9_readSide 66 = .ok (.aload_n 0, 1) := by decide +kernel
theorem dX9_readSide_67 : decode cX9_readSide 67 = .ok (.bipush 40, 2) := by decide +kernel
theorem dX9_readSide_69 : decode cX9_readSide 69 = .ok (.invokevirtual 76, 3) := by decide +kernel
theorem dX9_readSide_72 : decode cX9_readSide 72 = .ok (.ifCond .eq 11, 3) := by decide +kernel
theorem dX9_readSide_75 : decode cX9_readSide 75 = .ok (.aload_n 0, 1) := by decide +kernel
theorem dX9_readSide_76 : decode cX9_readSide 76 = .ok (.iload_n 3, 1) := by decide +kernel
theorem dX9_readSide_77 : decode cX9_readSide 77 = .ok (.invokevirtual 124, 3) := by decide +kernel
theorem dX9_readSide_80 : decode cX9_readSide 80 = .ok (.ifCond .ne 33, 3) := by decide +kernel
theorem dX9_readSide_83 : decode cX9_readSide 83 = .ok (.iconst 0, 1) := by decide +kernel
theorem dX9_readSide_84 : decode cX9_readSide 84 = .ok (.ireturn, 1) := by decide +kernel
theorem dX9_readSide_85 : decode cX9_readSide 85 = .ok (.aload_n 0, 1) := by decide +kernel
theorem dX9_readSide_86 : decode cX9_readSide 86 = .ok (.aload_n 0, 1) := by decide +kernel
theorem dX9_readSide_87 : decode cX9_readSide 87 = .ok (.getfield 24, 3) := by decide +kernel
theorem dX9_readSide_90 : decode cX9_readSide 90 = .ok (.iload_n 3, 1) := by decide +kernel
theorem dX9_readSide_91 : decode cX9_readSide 91 = .ok (.iconst (-1), 1) := by decide +kernel
theorem dX9_readSide_92 : decode cX9_readSide 92 = .ok (.iconst (-1), 1) := by decide +kernel
theorem dX9_readSide_93 : decode cX9_readSide 93 = .ok (.invokevirtual 127, 3) := by decide +kernel
theorem dX9_readSide_96 : decode cX9_readSide 96 = .ok (.invokevirtual 131, 3) := by decide +kernel
theorem dX9_readSide_99 : decode cX9_readSide 99 = .ok (.ifCond .ne 5, 3) := by decide +kernel
theorem dX9_readSide_102 : decode cX9_readSide 102 = .ok (.iconst 0, 1) := by decide +kernel
theorem dX9_readSide_103 : decode cX9_readSide 103 = .ok (.ireturn, 1) := by decide +kernel
theorem dX9_readSide_104 : decode cX9_readSide 104 = .ok (.aload_n 0, 1) := by decide +kernel
theorem dX9_readSide_105 : decode cX9_readSide 105 = .ok (.getfield 34, 3) := by decide +kernel
theorem dX9_readSide_108 : decode cX9_readSide 108 = .ok (.ifCond .ne 5, 3) := by decide +kernel
theorem dX9_readSide_111 : decode cX9_readSide 111 = .ok (.iconst 1, 1) := by decide +kernel
theorem dX9_readSide_112 : decode cX9_readSide 112 = .ok (.ireturn, 1) := by decide +kernel
theorem dX9_readSide_113 : decode cX9_readSide 113 = .ok (.iinc 2 1, 3) := by decide +kernel
theorem dX9_readSide_116 : decode cX9_readSide 116 = .ok (.goto (-109), 3) := by decide +kernel
theorem dX9_readSide_119 : decode cX9_readSide 119 = .ok (.iconst 0, 1) := by decide +kernel
theorem dX9_readSide_120 : decode cX9_readSide 120 = .ok (.ireturn, 1) := by decide +kernel
theorem dX9_open_0 : decode cX9_open 0 = .ok (.aload_n 0, 1) := by decide +kernel
theorem dX9_open_1 : decode cX9_open 1 = .ok (.getfield 34, 3) := by decide +kernel
theorem dX9_open_4 : decode cX9_open 4 = .ok (.bipush 120, 2) := by decide +kernel
theorem dX9_open_6 : decode cX9_open 6 = .ok (.if_icmp .lt 5, 3) := by decide +kernel
theorem dX9_open_9 : decode cX9_open 9 = .ok (.iconst 0, 1) := by decide +kernel
theorem dX9_open_10 : decode cX9_open 10 = .ok (.ireturn, 1) := by decide +kernel
theorem dX9_open_11 : decode cX9_open 11 = .ok (.aload_n 0, 1) := by decide +kernel
theorem dX9_open_12 : decode cX9_open 12 = .ok (.getfield 28, 3) := by decide +kernel
theorem dX9_open_15 : decode cX9_open 15 = .ok (.aload_n 0, 1) := by decide +kernel
theorem dX9_open_16 : decode cX9_open 16 = .ok (.getfield 34, 3) := by decide +kernel
theorem dX9_open_19 : decode cX9_open 19 = .ok (.iload_n 1, 1) := by decide +kernel
theorem dX9_open_20 : decode cX9_open 20 = .ok (.iastore, 1) := by decide +kernel
theorem dX9_open_21 : decode cX9_open 21 = .ok (.aload_n 0, 1) := by decide +kernel
theorem dX9_open_22 : decode cX9_open 22 = .ok (.getfield 31, 3) := by decide +kernel
theorem dX9_open_25 : decode cX9_open 25 = .ok (.aload_n 0, 1) := by decide +kernel
theorem dX9_open_26 : decode cX9_open 26 = .ok (.getfield 34, 3) := by decide +kernel
theorem dX9_open_29 : decode cX9_open 29 = .ok (.iconst (-1), 1) := by decide +kernel
theorem dX9_open_30 : decode cX9_open 30 = .ok (.iastore, 1) := by decide +kernel
theorem dX9_open_31 : decode cX9_open 31 = .ok (.aload_n 0, 1) := by decide +kernel
theorem dX9_open_32 : decode cX9_open 32 = .ok (.dup, 1) := by decide +kernel
theorem dX9_open_33 : decode cX9_open 33 = .ok (.getfield 34, 3) := by decide +kernel
theorem dX9_open_36 : decode cX9_open 36 = .ok (.iconst 1, 1) := by decide +kernel
theorem dX9_open_37 : decode cX9_open 37 = .ok (.iadd, 1) := by decide +kernel
theorem dX9_open_38 : decode cX9_open 38 = .ok (.putfield 34, 3) := by decide +kernel
theorem dX9_open_41 : decode cX9_open 41 = .ok (.iconst 1, 1) := by decide +kernel
theorem dX9_open_42 : decode cX9_open 42 = .ok (.ireturn, 1) := by decide +kernel
theorem dX9_closeBehind_0 : decode cX9_closeBehind 0 = .ok (.iload_n 1, 1) := by decide +kernel
theorem dX9_closeBehind_1 : decode cX9_closeBehind 1 = .ok (.istore_n 2, 1) := by decide +kernel
theorem dX9_closeBehind_2 : decode cX9_closeBehind 2 = .ok (.aload_n 0, 1) := by decide +kernel
theorem dX9_closeBehind_3 : decode cX9_closeBehind 3 = .ok (.getfield 34, 3) := by decide +kernel
theorem dX9_closeBehind_6 : decode cX9_closeBehind 6 = .ok (.ifCond .le 126, 3) := by decide +kernel
theorem dX9_closeBehind_9 : decode cX9_closeBehind 9 = .ok (.aload_n 0, 1) := by decide +kernel
theorem dX9_closeBehind_10 : decode cX9_closeBehind 10 = .ok (.getfield 34, 3) := by decide +kernel
theorem dX9_closeBehind_13 : decode cX9_closeBehind 13 = .ok (.iconst 1, 1) := by decide +kernel
theorem dX9_closeBehind_14 : decode cX9_closeBehind 14 = .ok (.isub, 1) := by decide +kernel
theorem dX9_closeBehind_15 : decode cX9_closeBehind 15 = .ok (.istore_n 3, 1) := by decide +kernel
theorem dX9_closeBehind_16 : decode cX9_closeBehind 16 = .ok (.aload_n 0, 1) := by decide +kernel
theorem dX9_closeBehind_17 : decode cX9_closeBehind 17 = .ok (.getfield 28, 3) := by decide +kernel
theorem dX9_closeBehind_20 : decode cX9_closeBehind 20 = .ok (.iload_n 3, 1) := by decide +kernel
theorem dX9_closeBehind_21 : decode cX9_closeBehind 21 = .ok (.iaload, 1) := by decide +kernel
theorem dX9_closeBehind_22 : decode cX9_closeBehind 22 = .ok (.bipush 6, 2) := by decide +kernel
theorem dX9_closeBehind_24 : decode cX9_closeBehind 24 = .ok (.if_icmp .ne 27, 3) := by decide +kernel
theorem dX9_closeBehind_27 : decode cX9_closeBehind 27 = .ok (.aload_n 0, 1) := by decide +kernel
theorem dX9_closeBehind_28 : decode cX9_closeBehind 28 = .ok (.getfield 31, 3) := by decide +kernel
theorem dX9_closeBehind_31 : decode cX9_closeBehind 31 = .ok (.iload_n 3, 1) := by decide +kernel
theorem dX9_closeBehind_32 : decode cX9_closeBehind 32 = .ok (.iaload, 1) := by decide +kernel
theorem dX9_closeBehind_33 : decode cX9_closeBehind 33 = .ok (.iconst (-1), 1) := by decide +kernel
theorem dX9_closeBehind_34 : decode cX9_closeBehind 34 = .ok (.if_icmp .ne 17, 3) := by decide +kernel
theorem dX9_closeBehind_37 : decode cX9_closeBehind 37 = .ok (.aload_n 0, 1) := by decide +kernel
theorem dX9_closeBehind_38 : decode cX9_closeBehind 38 = .ok (.getfield 31, 3) := by decide +kernel
theorem dX9_closeBehind_41 : decode cX9_closeBehind 41 = .ok (.iload_n 3, 1) := by decide +kernel
theorem dX9_closeBehind_42 : decode cX9_closeBehind 42 = .ok (.iload_n 2, 1) := by decide +kernel
theorem dX9_closeBehind_43 : decode cX9_closeBehind 43 = .ok (.iastore, 1) := by decide +kernel
theorem dX9_closeBehind_44 : decode cX9_closeBehind 44 = .ok (.aload_n 0, 1) := by decide +kernel
theorem dX9_closeBehind_45 : decode cX9_closeBehind 45 = .ok (.bipush 44, 2) := by decide +kernel
theorem dX9_closeBehind_47 : decode cX9_closeBehind 47 = .ok (.invokevirtual 76, 3) := by decide +kernel
theorem dX9_closeBehind_50 : decode cX9_closeBehind 50 = .ok (.ireturn, 1) := by decide +kernel
theorem dX9_closeBehind_51 : decode cX9_closeBehind 51 = .ok (.aload_n 0, 1) := by decide +kernel
theorem dX9_closeBehind_52 : decode cX9_closeBehind 52 = .ok (.bipush 41, 2) := by decide +kernel
theorem dX9_closeBehind_54 : decode cX9_closeBehind 54 = .ok (.invokevirtual 76, 3) := by decide +kernel
theorem dX9_closeBehind_57 : decode cX9_closeBehind 57 = .ok (.ifCond .ne 5, 3) := by decide +kernel
theorem dX9_closeBehind_60 : decode cX9_closeBehind 60 = .ok (.iconst 0, 1) := by decide +kernel
theorem dX9_closeBehind_61 : decode cX9_closeBehind 61 = .ok (.ireturn, 1) := by decide +kernel
theorem dX9_closeBehind_62 : decode cX9_closeBehind 62 = .ok (.aload_n 0, 1) := by decide +kernel
theorem dX9_closeBehind_63 : decode cX9_closeBehind 63 = .ok (.getfield 28, 3) := by decide +kernel
theorem dX9_closeBehind_66 : decode cX9_closeBehind 66 = .ok (.iload_n 3, 1) := by decide +kernel
theorem dX9_closeBehind_67 : decode cX9_closeBehind 67 = .ok (.iaload, 1) := by decide +kernel
theorem dX9_closeBehind_68 : decode cX9_closeBehind 68 = .ok (.bipush 6, 2) := by decide +kernel
theorem dX9_closeBehind_70 : decode cX9_closeBehind 70 = .ok (.if_icmp .ne 7, 3) := by decide +kernel
theorem dX9_closeBehind_73 : decode cX9_closeBehind 73 = .ok (.iconst 1, 1) := by decide +kernel
theorem dX9_closeBehind_74 : decode cX9_closeBehind 74 = .ok (.goto 4, 3) := by decide +kernel
theorem dX9_closeBehind_77 : decode cX9_closeBehind 77 = .ok (.iconst 0, 1) := by decide +kernel
theorem dX9_closeBehind_78 : decode cX9_closeBehind 78 = .ok (.istore 4, 2) := by decide +kernel
theorem dX9_closeBehind_80 : decode cX9_closeBehind 80 = .ok (.aload_n 0, 1) := by decide +kernel
theorem dX9_closeBehind_81 : decode cX9_closeBehind 81 = .ok (.getfield 24, 3) := by decide +kernel
theorem dX9_closeBehind_84 : decode cX9_closeBehind 84 = .ok (.aload_n 0, 1) := by decide +kernel
theorem dX9_closeBehind_85 : decode cX9_closeBehind 85 = .ok (.getfield 28, 3) := by decide +kernel
theorem dX9_closeBehind_88 : decode cX9_closeBehind 88 = .ok (.iload_n 3, 1) := by decide +kernel
theorem dX9_closeBehind_89 : decode cX9_closeBehind 89 = .ok (.iaload, 1) := by decide +kernel
theorem dX9_closeBehind_90 : decode cX9_closeBehind 90 = .ok (.iload 4, 2) := by decide +kernel
theorem dX9_closeBehind_92 : decode cX9_closeBehind 92 = .ok (.ifCond .eq 12, 3) := by decide +kernel
theorem dX9_closeBehind_95 : decode cX9_closeBehind 95 = .ok (.aload_n 0, 1) := by decide +kernel
theorem dX9_closeBehind_96 : decode cX9_closeBehind 96 = .ok (.getfield 31, 3) := by decide +kernel
theorem dX9_closeBehind_99 : decode cX9_closeBehind 99 = .ok (.iload_n 3, 1) := by decide +kernel
theorem dX9_closeBehind_100 : decode cX9_closeBehind 100 = .ok (.iaload, 1) := by decide +kernel
theorem dX9_closeBehind_101 : decode cX9_closeBehind 101 = .ok (.goto 4, 3) := by decide +kernel
theorem dX9_closeBehind_104 : decode cX9_closeBehind 104 = .ok (.iload_n 2, 1) := by decide +kernel
theorem dX9_closeBehind_105 : decode cX9_closeBehind 105 = .ok (.iload 4, 2) := by decide +kernel
theorem dX9_closeBehind_107 : decode cX9_closeBehind 107 = .ok (.ifCond .eq 7, 3) := by decide +kernel
theorem dX9_closeBehind_110 : decode cX9_closeBehind 110 = .ok (.iload_n 2, 1) := by decide +kernel
theorem dX9_closeBehind_111 : decode cX9_closeBehind 111 = .ok (.goto 4, 3) := by decide +kernel
theorem dX9_closeBehind_114 : decode cX9_closeBehind 114 = .ok (.iconst (-1), 1) := by decide +kernel
theorem dX9_closeBehind_115 : decode cX9_closeBehind 115 = .ok (.invokevirtual 127, 3) := by decide +kernel
theorem dX9_closeBehind_118 : decode cX9_closeBehind 118 = .ok (.istore_n 2, 1) := by decide +kernel
theorem dX9_closeBehind_119 : decode cX9_closeBehind 119 = .ok (.aload_n 0, 1) := by decide +kernel
theorem dX9_closeBehind_120 : decode cX9_closeBehind 120 = .ok (.dup, 1) := by decide +kernel
theorem dX9_closeBehind_121 : decode cX9_closeBehind 121 = .ok (.getfield 34, 3) := by decide +kernel
theorem dX9_closeBehind_124 : decode cX9_closeBehind 124 = .ok (.iconst 1, 1) := by decide +kernel
theorem dX9_closeBehind_125 : decode cX9_closeBehind 125 = .ok (.isub, 1) := by decide +kernel
theorem dX9_closeBehind_126 : decode cX9_closeBehind 126 = .ok (.putfield 34, 3) := by decide +kernel
theorem dX9_closeBehind_129 : decode cX9_closeBehind 129 = .ok (.goto (-127), 3) := by decide +kernel
theorem dX9_closeBehind_132 : decode cX9_closeBehind 132 = .ok (.iconst 1, 1) := by decide +kernel
theorem dX9_closeBehind_133 : decode cX9_closeBehind 133 = .ok (.ireturn, 1) := by decide +kernel
theorem dX9_signOf_0 : decode cX9_signOf 0 = .ok (.iload_n 0, 1) := by decide +kernel
theorem dX9_signOf_1 : decode cX9_signOf 1 = .ok (.bipush 120, 2) := by decide +kernel
theorem dX9_signOf_3 : decode cX9_signOf 3 = .ok (.if_icmp .lt 17, 3) := by decide +kernel
theorem dX9_signOf_6 : decode cX9_signOf 6 = .ok (.iload_n 0, 1) := by decide +kernel
theorem dX9_signOf_7 : decode cX9_signOf 7 = .ok (.bipush 122, 2) := by decide +kernel
theorem dX9_signOf_9 : decode cX9_signOf 9 = .ok (.if_icmp .gt 11, 3) := by decide +kernel
theorem dX9_signOf_12 : decode cX9_signOf 12 = .ok (.bipush 7, 2) := by decide +kernel
theorem dX9_signOf_14 : decode cX9_signOf 14 = .ok (.iload_n 0, 1) := by decide +kernel
theorem dX9_signOf_15 : decode cX9_signOf 15 = .ok (.iadd, 1) := by decide +kernel
theorem dX9_signOf_16 : decode cX9_signOf 16 = .ok (.bipush 120, 2) := by decide +kernel
theorem dX9_signOf_18 : decode cX9_signOf 18 = .ok (.isub, 1) := by decide +kernel
theorem dX9_signOf_19 : decode cX9_signOf 19 = .ok (.ireturn, 1) := by decide +kernel
theorem dX9_signOf_20 : decode cX9_signOf 20 = .ok (.iconst 0, 1) := by decide +kernel
theorem dX9_signOf_21 : decode cX9_signOf 21 = .ok (.istore_n 1, 1) := by decide +kernel
theorem dX9_signOf_22 : decode cX9_signOf 22 = .ok (.iload_n 1, 1) := by decide +kernel
theorem dX9_signOf_23 : decode cX9_signOf 23 = .ok (.bipush 7, 2) := by decide +kernel
theorem dX9_signOf_25 : decode cX9_signOf 25 = .ok (.if_icmp .ge 21, 3) := by decide +kernel
theorem dX9_signOf_28 : decode cX9_signOf 28 = .ok (.ldc 134, 2) := by decide +kernel
theorem dX9_signOf_30 : decode cX9_signOf 30 = .ok (.iload_n 1, 1) := by decide +kernel
theorem dX9_signOf_31 : decode cX9_signOf 31 = .ok (.invokevirtual 136, 3) := by decide +kernel
theorem dX9_signOf_34 : decode cX9_signOf 34 = .ok (.iload_n 0, 1) := by decide +kernel
theorem dX9_signOf_35 : decode cX9_signOf 35 = .ok (.if_icmp .ne 5, 3) := by decide +kernel
theorem dX9_signOf_38 : decode cX9_signOf 38 = .ok (.iload_n 1, 1) := by decide +kernel
theorem dX9_signOf_39 : decode cX9_signOf 39 = .ok (.ireturn, 1) := by decide +kernel
theorem dX9_signOf_40 : decode cX9_signOf 40 = .ok (.iinc 1 1, 3) := by decide +kernel
theorem dX9_signOf_43 : decode cX9_signOf 43 = .ok (.goto (-21), 3) := by decide +kernel
theorem dX9_signOf_46 : decode cX9_signOf 46 = .ok (.iconst (-1), 1) := by decide +kernel
theorem dX9_signOf_47 : decode cX9_signOf 47 = .ok (.ireturn, 1) := by decide +kernel
theorem dX10_init_0 : decode cX10_init 0 = .ok (.aload_n 0, 1) := by decide +kernel
theorem dX10_init_1 : decode cX10_init 1 = .ok (.invokespecial 3, 3) := by decide +kernel
theorem dX10_init_4 : decode cX10_init 4 = .ok (.aload_n 0, 1) := by decide +kernel
theorem dX10_init_5 : decode cX10_init 5 = .ok (.sipush 300, 3) := by decide +kernel
theorem dX10_init_8 : decode cX10_init 8 = .ok (.newarray .int, 2) := by decide +kernel
theorem dX10_init_10 : decode cX10_init 10 = .ok (.putfield 9, 3) := by decide +kernel
theorem dX10_init_13 : decode cX10_init 13 = .ok (.aload_n 0, 1) := by decide +kernel
theorem dX10_init_14 : decode cX10_init 14 = .ok (.sipush 255, 3) := by decide +kernel
theorem dX10_init_17 : decode cX10_init 17 = .ok (.newarray .int, 2) := by decide +kernel
theorem dX10_init_19 : decode cX10_init 19 = .ok (.putfield 15, 3) := by decide +kernel
theorem dX10_init_22 : decode cX10_init 22 = .ok (.aload_n 0, 1) := by decide +kernel
theorem dX10_init_23 : decode cX10_init 23 = .ok (.iconst 0, 1) := by decide +kernel
theorem dX10_init_24 : decode cX10_init 24 = .ok (.putfield 18, 3) := by decide +kernel
theorem dX10_init_27 : decode cX10_init 27 = .ok (.aload_n 0, 1) := by decide +kernel
theorem dX10_init_28 : decode cX10_init 28 = .ok (.iconst 0, 1) := by decide +kernel
theorem dX10_init_29 : decode cX10_init 29 = .ok (.putfield 22, 3) := by decide +kernel
theorem dX10_init_32 : decode cX10_init 32 = .ok (.return_, 1) := by decide +kernel
theorem dX10_write_0 : decode cX10_write 0 = .ok (.aload_n 0, 1) := by decide +kernel
theorem dX10_write_1 : decode cX10_write 1 = .ok (.iconst 0, 1) := by decide +kernel
theorem dX10_write_2 : decode cX10_write 2 = .ok (.putfield 18, 3) := by decide +kernel
theorem dX10_write_5 : decode cX10_write 5 = .ok (.aload_n 0, 1) := by decide +kernel
theorem dX10_write_6 : decode cX10_write 6 = .ok (.iconst 0, 1) := by decide +kernel
theorem dX10_write_7 : decode cX10_write 7 = .ok (.putfield 22, 3) := by decide +kernel
theorem dX10_write_10 : decode cX10_write 10 = .ok (.aload_n 0, 1) := by decide +kernel
theorem dX10_write_11 : decode cX10_write 11 = .ok (.iload_n 2, 1) := by decide +kernel
theorem dX10_write_12 : decode cX10_write 12 = .ok (.invokevirtual 25, 3) := by decide +kernel
theorem dX10_write_15 : decode cX10_write 15 = .ok (.aload_n 0, 1) := by decide +kernel
theorem dX10_write_16 : decode cX10_write 16 = .ok (.getfield 18, 3) := by decide +kernel
theorem dX10_write_19 : decode cX10_write 19 = .ok (.ifCond .le 75, 3) := by decide +kernel
theorem dX10_write_22 : decode cX10_write 22 = .ok (.aload_n 0, 1) := by decide +kernel
theorem dX10_write_23 : decode cX10_write 23 = .ok (.getfield 22, 3) := by decide +kernel
theorem dX10_write_26 : decode cX10_write 26 = .ok (.sipush 300, 3) := by decide +kernel
theorem dX10_write_29 : decode cX10_write 29 = .ok (.if_icmp .ge 65, 3) := by decide +kernel
theorem dX10_write_32 : decode cX10_write 32 = .ok (.aload_n 0, 1) := by decide +kernel
theorem dX10_write_33 : decode cX10_write 33 = .ok (.dup, 1) := by decide +kernel
theorem dX10_write_34 : decode cX10_write 34 = .ok (.getfield 18, 3) := by decide +kernel
theorem dX10_write_37 : decode cX10_write 37 = .ok (.iconst 1, 1) := by decide +kernel
theorem dX10_write_38 : decode cX10_write 38 = .ok (.isub, 1) := by decide +kernel
theorem dX10_write_39 : decode cX10_write 39 = .ok (.putfield 18, 3) := by decide +kernel
theorem dX10_write_42 : decode cX10_write 42 = .ok (.aload_n 0, 1) := by decide +kernel
theorem dX10_write_43 : decode cX10_write 43 = .ok (.getfield 15, 3) := by decide +kernel
theorem dX10_write_46 : decode cX10_write 46 = .ok (.aload_n 0, 1) := by decide +kernel
theorem dX10_write_47 : decode cX10_write 47 = .ok (.getfield 18, 3) := by decide +kernel
theorem dX10_write_50 : decode cX10_write 50 = .ok (.iaload, 1) := by decide +kernel
theorem dX10_write_51 : decode cX10_write 51 = .ok (.istore_n 3, 1) := by decide +kernel
theorem dX10_write_52 : decode cX10_write 52 = .ok (.aload_n 1, 1) := by decide +kernel
theorem dX10_write_53 : decode cX10_write 53 = .ok (.iload_n 3, 1) := by decide +kernel
theorem dX10_write_54 : decode cX10_write 54 = .ok (.invokevirtual 29, 3) := by decide +kernel
theorem dX10_write_57 : decode cX10_write 57 = .ok (.ifCond .eq 12, 3) := by decide +kernel
theorem dX10_write_60 : decode cX10_write 60 = .ok (.aload_n 0, 1) := by decide +kernel
theorem dX10_write_61 : decode cX10_write 61 = .ok (.aload_n 1, 1) := by decide +kernel
theorem dX10_write_62 : decode cX10_write 62 = .ok (.iload_n 3, 1) := by decide +kernel
theorem dX10_write_63 : decode cX10_write 63 = .ok (.invokevirtual 35, 3) := by decide +kernel
theorem dX10_write_66 : decode cX10_write 66 = .ok (.goto 15, 3) := by decide +kernel
theorem dX10_write_69 : decode cX10_write 69 = .ok (.aload_n 0, 1) := by decide +kernel
theorem dX10_write_70 : decode cX10_write 70 = .ok (.getfield 9, 3) := by decide +kernel
theorem dX10_write_73 : decode cX10_write 73 = .ok (.aload_n 0, 1) := by decide +kernel
theorem dX10_write_74 : decode cX10_write 74 = .ok (.getfield 22, 3) := by decide +kernel
theorem dX10_write_77 : decode cX10_write 77 = .ok (.iconst (-1), 1) := by decide +kernel
theorem dX10_write_78 : decode cX10_write 78 = .ok (.iload_n 3, 1) := by decide +kernel
theorem dX10_write_79 : decode cX10_write 79 = .ok (.isub, 1) := by decide +kernel
theorem dX10_write_80 : decode cX10_write 80 = .ok (.iastore, 1) := by decide +kernel
theorem dX10_write_81 : decode cX10_write 81 = .ok (.aload_n 0, 1) := by decide +kernel
theorem dX10_write_82 : decode cX10_write 82 = .ok (.dup, 1) := by decide +kernel
theorem dX10_write_83 : decode cX10_write 83 = .ok (.getfield 22, 3) := by decide +kernel
theorem dX10_write_86 : decode cX10_write 86 = .ok (.iconst 1, 1) := by decide +kernel
theorem dX10_write_87 : decode cX10_write 87 = .ok (.iadd, 1) := by decide +kernel
theorem dX10_write_88 : decode cX10_write 88 = .ok (.putfield 22, 3) := by decide +kernel
theorem dX10_write_91 : decode cX10_write 91 = .ok (.goto (-76), 3) := by decide +kernel
theorem dX10_write_94 : decode cX10_write 94 = .ok (.aload_n 0, 1) := by decide +kernel
theorem dX10_write_95 : decode cX10_write 95 = .ok (.getfield 22, 3) := by decide +kernel
theorem dX10_write_98 : decode cX10_write 98 = .ok (.ireturn, 1) := by decide +kernel
theorem dX10_writeTerm_0 : decode cX10_writeTerm 0 = .ok (.aload_n 1, 1) := by decide +kernel
theorem dX10_writeTerm_1 : decode cX10_writeTerm 1 = .ok (.getfield 39, 3) := by decide +kernel
theorem dX10_writeTerm_4 : decode cX10_writeTerm 4 = .ok (.iload_n 2, 1) := by decide +kernel
theorem dX10_writeTerm_5 : decode cX10_writeTerm 5 = .ok (.iaload, 1) := by decide +kernel
theorem dX10_writeTerm_6 : decode cX10_writeTerm 6 = .ok (.istore_n 3, 1) := by decide +kernel
theorem dX10_writeTerm_7 : decode cX10_writeTerm 7 = .ok (.aload_n 0, 1) := by decide +kernel
theorem dX10_writeTerm_8 : decode cX10_writeTerm 8 = .ok (.getfield 9, 3) := by decide +kernel
theorem dX10_writeTerm_11 : decode cX10_writeTerm 11 = .ok (.aload_n 0, 1) := by decide +kernel
theorem dX10_writeTerm_12 : decode cX10_writeTerm 12 = .ok (.getfield 22, 3) := by decide +kernel
theorem dX10_writeTerm_15 : decode cX10_writeTerm 15 = .ok (.iload_n 3, 1) := by decide +kernel
theorem dX10_writeTerm_16 : decode cX10_writeTerm 16 = .ok (.ifCond .lt 18, 3) := by decide +kernel
theorem dX10_writeTerm_19 : decode cX10_writeTerm 19 = .ok (.iload_n 3, 1) := by decide +kernel
theorem dX10_writeTerm_20 : decode cX10_writeTerm 20 = .ok (.bipush 7, 2) := by decide +kernel
theorem dX10_writeTerm_22 : decode cX10_writeTerm 22 = .ok (.if_icmp .ge 12, 3) := by decide +kernel
theorem dX10_writeTerm_25 : decode cX10_writeTerm 25 = .ok (.ldc 42, 2) := by decide +kernel
theorem dX10_writeTerm_27 : decode cX10_writeTerm 27 = .ok (.iload_n 3, 1) := by decide +kernel
theorem dX10_writeTerm_28 : decode cX10_writeTerm 28 = .ok (.invokevirtual 44, 3) := by decide +kernel
theorem dX10_writeTerm_31 : decode cX10_writeTerm 31 = .ok (.goto 5, 3) := by decide +kernel
theorem dX10_writeTerm_34 : decode cX10_writeTerm 34 = .ok (.bipush 32, 2) := by decide +kernel
theorem dX10_writeTerm_36 : decode cX10_writeTerm 36 = .ok (.iastore, 1) := by decide +kernel
theorem dX10_writeTerm_37 : decode cX10_writeTerm 37 = .ok (.iload_n 3, 1) := by decide +kernel
theorem dX10_writeTerm_38 : decode cX10_writeTerm 38 = .ok (.iconst 4, 1) := by decide +kernel
theorem dX10_writeTerm_39 : decode cX10_writeTerm 39 = .ok (.if_icmp .ge 4, 3) := by decide +kernel
theorem dX10_writeTerm_42 : decode cX10_writeTerm 42 = .ok (.return_, 1) := by decide +kernel
theorem dX10_writeTerm_43 : decode cX10_writeTerm 43 = .ok (.aload_n 0, 1) := by decide +kernel
theorem dX10_writeTerm_44 : decode cX10_writeTerm 44 = .ok (.bipush (-42), 2) := by decide +kernel
theorem dX10_writeTerm_46 : decode cX10_writeTerm 46 = .ok (.invokevirtual 25, 3) := by decide +kernel
theorem dX10_writeTerm_49 : decode cX10_writeTerm 49 = .ok (.iload_n 3, 1) := by decide +kernel
theorem dX10_writeTerm_50 : decode cX10_writeTerm 50 = .ok (.bipush 6, 2) := by decide +kernel
theorem dX10_writeTerm_52 : decode cX10_writeTerm 52 = .ok (.if_icmp .ne 19, 3) := by decide +kernel
theorem dX10_writeTerm_55 : decode cX10_writeTerm 55 = .ok (.aload_n 0, 1) := by decide +kernel
theorem dX10_writeTerm_56 : decode cX10_writeTerm 56 = .ok (.aload_n 1, 1) := by decide +kernel
theorem dX10_writeTerm_57 : decode cX10_writeTerm 57 = .ok (.getfield 50, 3) := by decide +kernel
theorem dX10_writeTerm_60 : decode cX10_writeTerm 60 = .ok (.iload_n 2, 1) := by decide +kernel
theorem dX10_writeTerm_61 : decode cX10_writeTerm 61 = .ok (.iaload, 1) := by decide +kernel
theorem dX10_writeTerm_62 : decode cX10_writeTerm 62 = .ok (.invokevirtual 25, 3) := by decide +kernel
theorem dX10_writeTerm_65 : decode cX10_writeTerm 65 = .ok (.aload_n 0, 1) := by decide +kernel
theorem dX10_writeTerm_66 : decode cX10_writeTerm 66 = .ok (.bipush (-45), 2) := by decide +kernel
theorem dX10_writeTerm_68 : decode cX10_writeTerm 68 = .ok (.invokevirtual 25, 3) := by decide +kernel
theorem dX10_writeTerm_71 : decode cX10_writeTerm 71 = .ok (.aload_n 0, 1) := by decide +kernel
theorem dX10_writeTerm_72 : decode cX10_writeTerm 72 = .ok (.aload_n 1, 1) := by decide +kernel
theorem dX10_writeTerm_73 : decode cX10_writeTerm 73 = .ok (.getfield 53, 3) := by decide +kernel
theorem dX10_writeTerm_76 : decode cX10_writeTerm 76 = .ok (.iload_n 2, 1) := by decide +kernel
theorem dX10_writeTerm_77 : decode cX10_writeTerm 77 = .ok (.iaload, 1) := by decide +kernel
theorem dX10_writeTerm_78 : decode cX10_writeTerm 78 = .ok (.invokevirtual 25, 3) := by decide +kernel
theorem dX10_writeTerm_81 : decode cX10_writeTerm 81 = .ok (.aload_n 0, 1) := by decide +kernel
theorem dX10_writeTerm_82 : decode cX10_writeTerm 82 = .ok (.bipush (-41), 2) := by decide +kernel
theorem dX10_writeTerm_84 : decode cX10_writeTerm 84 = .ok (.invokevirtual 25, 3) := by decide +kernel
theorem dX10_writeTerm_87 : decode cX10_writeTerm 87 = .ok (.return_, 1) := by decide +kernel
theorem dX10_push_0 : decode cX10_push 0 = .ok (.aload_n 0, 1) := by decide +kernel
theorem dX10_push_1 : decode cX10_push 1 = .ok (.getfield 18, 3) := by decide +kernel
theorem dX10_push_4 : decode cX10_push 4 = .ok (.sipush 255, 3) := by decide +kernel
theorem dX10_push_7 : decode cX10_push 7 = .ok (.if_icmp .ge 23, 3) := by decide +kernel
theorem dX10_push_10 : decode cX10_push 10 = .ok (.aload_n 0, 1) := by decide +kernel
theorem dX10_push_11 : decode cX10_push 11 = .ok (.getfield 15, 3) := by decide +kernel
theorem dX10_push_14 : decode cX10_push 14 = .ok (.aload_n 0, 1) := by decide +kernel
theorem dX10_push_15 : decode cX10_push 15 = .ok (.getfield 18, 3) := by decide +kernel
theorem dX10_push_18 : decode cX10_push 18 = .ok (.iload_n 1, 1) := by decide +kernel
theorem dX10_push_19 : decode cX10_push 19 = .ok (.iastore, 1) := by decide +kernel
theorem dX10_push_20 : decode cX10_push 20 = .ok (.aload_n 0, 1) := by decide +kernel
theorem dX10_push_21 : decode cX10_push 21 = .ok (.dup, 1) := by decide +kernel
theorem dX10_push_22 : decode cX10_push 22 = .ok (.getfield 18, 3) := by decide +kernel
theorem dX10_push_25 : decode cX10_push 25 = .ok (.iconst 1, 1) := by decide +kernel
theorem dX10_push_26 : decode cX10_push 26 = .ok (.iadd, 1) := by decide +kernel
theorem dX10_push_27 : decode cX10_push 27 = .ok (.putfield 18, 3) := by decide +kernel
theorem dX10_push_30 : decode cX10_push 30 = .ok (.return_, 1) := by decide +kernel
theorem dX11_init_0 : decode cX11_init 0 = .ok (.aload_n 0, 1) := by decide +kernel
theorem dX11_init_1 : decode cX11_init 1 = .ok (.invokespecial 1, 3) := by decide +kernel
theorem dX11_init_4 : decode cX11_init 4 = .ok (.aload_n 0, 1) := by decide +kernel
theorem dX11_init_5 : decode cX11_init 5 = .ok (.new 7, 3) := by decide +kernel
theorem dX11_init_8 : decode cX11_init 8 = .ok (.dup, 1) := by decide +kernel
theorem dX11_init_9 : decode cX11_init 9 = .ok (.invokespecial 9, 3) := by decide +kernel
theorem dX11_init_12 : decode cX11_init 12 = .ok (.putfield 10, 3) := by decide +kernel
theorem dX11_init_15 : decode cX11_init 15 = .ok (.aload_n 0, 1) := by decide +kernel
theorem dX11_init_16 : decode cX11_init 16 = .ok (.new 16, 3) := by decide +kernel
theorem dX11_init_19 : decode cX11_init 19 = .ok (.dup, 1) := by decide +kernel
theorem dX11_init_20 : decode cX11_init 20 = .ok (.invokespecial 18, 3) := by decide +kernel
theorem dX11_init_23 : decode cX11_init 23 = .ok (.putfield 19, 3) := by decide +kernel
theorem dX11_init_26 : decode cX11_init 26 = .ok (.aload_n 0, 1) := by decide +kernel
theorem dX11_init_27 : decode cX11_init 27 = .ok (.new 23, 3) := by decide +kernel
theorem dX11_init_30 : decode cX11_init 30 = .ok (.dup, 1) := by decide +kernel
theorem dX11_init_31 : decode cX11_init 31 = .ok (.invokespecial 25, 3) := by decide +kernel
theorem dX11_init_34 : decode cX11_init 34 = .ok (.putfield 26, 3) := by decide +kernel
theorem dX11_init_37 : decode cX11_init 37 = .ok (.aload_n 0, 1) := by decide +kernel
theorem dX11_init_38 : decode cX11_init 38 = .ok (.new 30, 3) := by decide +kernel
theorem dX11_init_41 : decode cX11_init 41 = .ok (.dup, 1) := by decide +kernel
theorem dX11_init_42 : decode cX11_init 42 = .ok (.aload_n 0, 1) := by decide +kernel
theorem dX11_init_43 : decode cX11_init 43 = .ok (.getfield 10, 3) := by decide +kernel
theorem dX11_init_46 : decode cX11_init 46 = .ok (.getfield 32, 3) := by decide +kernel
theorem dX11_init_49 : decode cX11_init 49 = .ok (.invokespecial 36, 3) := by decide +kernel
theorem dX11_init_52 : decode cX11_init 52 = .ok (.putfield 39, 3) := by decide +kernel
theorem dX11_init_55 : decode cX11_init 55 = .ok (.aload_n 0, 1) := by decide +kernel
theorem dX11_init_56 : decode cX11_init 56 = .ok (.new 43, 3) := by decide +kernel
theorem dX11_init_59 : decode cX11_init 59 = .ok (.dup, 1) := by decide +kernel
theorem dX11_init_60 : decode cX11_init 60 = .ok (.aload_n 0, 1) := by decide +kernel
theorem dX11_init_61 : decode cX11_init 61 = .ok (.getfield 10, 3) := by decide +kernel
theorem dX11_init_64 : decode cX11_init 64 = .ok (.aload_n 0, 1) := by decide +kernel
theorem dX11_init_65 : decode cX11_init 65 = .ok (.getfield 26, 3) := by decide +kernel
theorem dX11_init_68 : decode cX11_init 68 = .ok (.invokespecial 45, 3) := by decide +kernel
theorem dX11_init_71 : decode cX11_init 71 = .ok (.putfield 48, 3) := by decide +kernel
theorem dX11_init_74 : decode cX11_init 74 = .ok (.aload_n 0, 1) := by decide +kernel
theorem dX11_init_75 : decode cX11_init 75 = .ok (.new 52, 3) := by decide +kernel
theorem dX11_init_78 : decode cX11_init 78 = .ok (.dup, 1) := by decide +kernel
theorem dX11_init_79 : decode cX11_init 79 = .ok (.aload_n 0, 1) := by decide +kernel
theorem dX11_init_80 : decode cX11_init 80 = .ok (.getfield 10, 3) := by decide +kernel
theorem dX11_init_83 : decode cX11_init 83 = .ok (.aload_n 0, 1) := by decide +kernel
theorem dX11_init_84 : decode cX11_init 84 = .ok (.getfield 26, 3) := by decide +kernel
theorem dX11_init_87 : decode cX11_init 87 = .ok (.aload_n 0, 1) := by decide +kernel
theorem dX11_init_88 : decode cX11_init 88 = .ok (.getfield 48, 3) := by decide +kernel
theorem dX11_init_91 : decode cX11_init 91 = .ok (.aload_n 0, 1) := by decide +kernel
theorem dX11_init_92 : decode cX11_init 92 = .ok (.getfield 39, 3) := by decide +kernel
theorem dX11_init_95 : decode cX11_init 95 = .ok (.invokespecial 54, 3) := by decide +kernel
theorem dX11_init_98 : decode cX11_init 98 = .ok (.putfield 57, 3) := by decide +kernel
theorem dX11_init_101 : decode cX11_init 101 = .ok (.aload_n 0, 1) := by decide +kernel
theorem dX11_init_102 : decode cX11_init 102 = .ok (.new 61, 3) := by decide +kernel
theorem dX11_init_105 : decode cX11_init 105 = .ok (.dup, 1) := by decide +kernel
theorem dX11_init_106 : decode cX11_init 106 = .ok (.aload_n 0, 1) := by decide +kernel
theorem dX11_init_107 : decode cX11_init 107 = .ok (.getfield 10, 3) := by decide +kernel
theorem dX11_init_110 : decode cX11_init 110 = .ok (.aload_n 0, 1) := by decide +kernel
theorem dX11_init_111 : decode cX11_init 111 = .ok (.getfield 39, 3) := by decide +kernel
theorem dX11_init_114 : decode cX11_init 114 = .ok (.invokespecial 63, 3) := by decide +kernel
theorem dX11_init_117 : decode cX11_init 117 = .ok (.putfield 66, 3) := by decide +kernel
theorem dX11_init_120 : decode cX11_init 120 = .ok (.aload_n 0, 1) := by decide +kernel
theorem dX11_init_121 : decode cX11_init 121 = .ok (.new 70, 3) := by decide +kernel
theorem dX11_init_124 : decode cX11_init 124 = .ok (.dup, 1) := by decide +kernel
theorem dX11_init_125 : decode cX11_init 125 = .ok (.invokespecial 72, 3) := by decide +kernel
theorem dX11_init_128 : decode cX11_init 128 = .ok (.putfield 73, 3) := by decide +kernel
theorem dX11_init_131 : decode cX11_init 131 = .ok (.aload_n 0, 1) := by decide +kernel
theorem dX11_init_132 : decode cX11_init 132 = .ok (.iconst 3, 1) := by decide +kernel
theorem dX11_init_133 : decode cX11_init 133 = .ok (.newarray .int, 2) := by decide +kernel
theorem dX11_init_135 : decode cX11_init 135 = .ok (.putfield 77, 3) := by decide +kernel
theorem dX11_init_138 : decode cX11_init 138 = .ok (.aload_n 0, 1) := by decide +kernel
theorem dX11_init_139 : decode cX11_init 139 = .ok (.iconst 0, 1) := by decide +kernel
theorem dX11_init_140 : decode cX11_init 140 = .ok (.putfield 81, 3) := by decide +kernel
theorem dX11_init_143 : decode cX11_init 143 = .ok (.aload_n 0, 1) := by decide +kernel
theorem dX11_init_144 : decode cX11_init 144 = .ok (.iconst 3, 1) := by decide +kernel
theorem dX11_init_145 : decode cX11_init 145 = .ok (.putfield 85, 3) := by decide +kernel
theorem dX11_init_148 : decode cX11_init 148 = .ok (.return_, 1) := by decide +kernel
theorem dX11_term_0 : decode cX11_term 0 = .ok (.iload_n 1, 1) := by decide +kernel
theorem dX11_term_1 : decode cX11_term 1 = .ok (.ifCond .lt 9, 3) := by decide +kernel
theorem dX11_term_4 : decode cX11_term 4 = .ok (.iload_n 1, 1) := by decide +kernel
theorem dX11_term_5 : decode cX11_term 5 = .ok (.bipush 6, 2) := by decide +kernel
theorem dX11_term_7 : decode cX11_term 7 = .ok (.if_icmp .le 10, 3) := by decide +kernel
theorem dX11_term_10 : decode cX11_term 10 = .ok (.aload_n 0, 1) := by decide +kernel
theorem dX11_term_11 : decode cX11_term 11 = .ok (.bipush (-2), 2) := by decide +kernel
theorem dX11_term_13 : decode cX11_term 13 = .ok (.invokevirtual 88, 3) := by decide +kernel
theorem dX11_term_16 : decode cX11_term 16 = .ok (.ireturn, 1) := by decide +kernel
theorem dX11_term_17 : decode cX11_term 17 = .ok (.iload_n 1, 1) := by decide +kernel
theorem dX11_term_18 : decode cX11_term 18 = .ok (.iconst 4, 1) := by decide +kernel
theorem dX11_term_19 : decode cX11_term 19 = .ok (.if_icmp .lt 7, 3) := by decide +kernel
theorem dX11_term_22 : decode cX11_term 22 = .ok (.iconst 1, 1) := by decide +kernel
theorem dX11_term_23 : decode cX11_term 23 = .ok (.goto 4, 3) := by decide +kernel
theorem dX11_term_26 : decode cX11_term 26 = .ok (.iconst 0, 1) := by decide +kernel
theorem dX11_term_27 : decode cX11_term 27 = .ok (.istore 4, 2) := by decide +kernel
theorem dX11_term_29 : decode cX11_term 29 = .ok (.iload_n 1, 1) := by decide +kernel
theorem dX11_term_30 : decode cX11_term 30 = .ok (.bipush 6, 2) := by decide +kernel
theorem dX11_term_32 : decode cX11_term 32 = .ok (.if_icmp .ne 7, 3) := by decide +kernel
theorem dX11_term_35 : decode cX11_term 35 = .ok (.iconst 1, 1) := by decide +kernel
theorem dX11_term_36 : decode cX11_term 36 = .ok (.goto 4, 3) := by decide +kernel
theorem dX11_term_39 : decode cX11_term 39 = .ok (.iconst 0, 1) := by decide +kernel
theorem dX11_term_40 : decode cX11_term 40 = .ok (.istore 5, 2) := by decide +kernel
theorem dX11_term_42 : decode cX11_term 42 = .ok (.iload 4, 2) := by decide +kernel
theorem dX11_term_44 : decode cX11_term 44 = .ok (.ifCond .eq 17, 3) := by decide +kernel
theorem dX11_term_47 : decode cX11_term 47 = .ok (.aload_n 0, 1) := by decide +kernel
theorem dX11_term_48 : decode cX11_term 48 = .ok (.getfield 10, 3) := by decide +kernel
theorem dX11_term_51 : decode cX11_term 51 = .ok (.getfield 32, 3) := by decide +kernel
theorem dX11_term_54 : decode cX11_term 54 = .ok (.iload_n 2, 1) := by decide +kernel
theorem dX11_term_55 : decode cX11_term 55 = .ok (.invokevirtual 92, 3) := by decide +kernel
theorem dX11_term_58 : decode cX11_term 58 = .ok (.ifCond .eq 22, 3) := by decide +kernel
theorem dX11_term_61 : decode cX11_term 61 = .ok (.iload 5, 2) := by decide +kernel
theorem dX11_term_63 : decode cX11_term 63 = .ok (.ifCond .eq 24, 3) := by decide +kernel
theorem dX11_term_66 : decode cX11_term 66 = .ok (.aload_n 0, 1) := by decide +kernel
theorem dX11_term_67 : decode cX11_term 67 = .ok (.getfield 10, 3) := by decide +kernel
theorem dX11_term_70 : decode cX11_term 70 = .ok (.getfield 32, 3) := by decide +kernel
theorem dX11_term_73 : decode cX11_term 73 = .ok (.iload_n 3, 1) := by decide +kernel
theorem dX11_term_74 : decode cX11_term 74 = .ok (.invokevirtual 92, 3) := by decide +kernel
theorem dX11_term_77 : decode cX11_term 77 = .ok (.ifCond .ne 10, 3) := by decide +kernel
theorem dX11_term_80 : decode cX11_term 80 = .ok (.aload_n 0, 1) := by decide +kernel
theorem dX11_term_81 : decode cX11_term 81 = .ok (.bipush (-2), 2) := by decide +kernel
theorem dX11_term_83 : decode cX11_term 83 = .ok (.invokevirtual 88, 3) := by decide +kernel
theorem dX11_term_86 : decode cX11_term 86 = .ok (.ireturn, 1) := by decide +kernel
theorem dX11_term_87 : decode cX11_term 87 = .ok (.iload 4, 2) := by decide +kernel
theorem dX11_term_89 : decode cX11_term 89 = .ok (.ifCond .eq 7, 3) := by decide +kernel
theorem dX11_term_92 : decode cX11_term 92 = .ok (.iload_n 2, 1) := by decide +kernel
theorem dX11_term_93 : decode cX11_term 93 = .ok (.goto 4, 3) := by decide +kernel
theorem dX11_term_96 : decode cX11_term 96 = .ok (.iconst (-1), 1) := by decide +kernel
theorem dX11_term_97 : decode cX11_term 97 = .ok (.istore 6, 2) := by decide +kernel
theorem dX11_term_99 : decode cX11_term 99 = .ok (.iload 5, 2) := by decide +kernel
theorem dX11_term_101 : decode cX11_term 101 = .ok (.ifCond .eq 7, 3) := by decide +kernel
theorem dX11_term_104 : decode cX11_term 104 = .ok (.iload_n 3, 1) := by decide +kernel
theorem dX11_term_105 : decode cX11_term 105 = .ok (.goto 4, 3) := by decide +kernel
theorem dX11_term_108 : decode cX11_term 108 = .ok (.iconst (-1), 1) := by decide +kernel
theorem dX11_term_109 : decode cX11_term 109 = .ok (.istore 7, 2) := by decide +kernel
theorem dX11_term_111 : decode cX11_term 111 = .ok (.aload_n 0, 1) := by decide +kernel
theorem dX11_term_112 : decode cX11_term 112 = .ok (.getfield 10, 3) := by decide +kernel
theorem dX11_term_115 : decode cX11_term 115 = .ok (.getfield 32, 3) := by decide +kernel
theorem dX11_term_118 : decode cX11_term 118 = .ok (.iload_n 1, 1) := by decide +kernel
theorem dX11_term_119 : decode cX11_term 119 = .ok (.iload 6, 2) := by decide +kernel
theorem dX11_term_121 : decode cX11_term 121 = .ok (.iload 7, 2) := by decide +kernel
theorem dX11_term_123 : decode cX11_term 123 = .ok (.invokevirtual 98, 3) := by decide +kernel
theorem dX11_term_126 : decode cX11_term 126 = .ok (.istore 8, 2) := by decide +kernel
theorem dX11_term_128 : decode cX11_term 128 = .ok (.iload 8, 2) := by decide +kernel
theorem dX11_term_130 : decode cX11_term 130 = .ok (.iconst (-1), 1) := by decide +kernel
theorem dX11_term_131 : decode cX11_term 131 = .ok (.if_icmp .ne 25, 3) := by decide +kernel
theorem dX11_term_134 : decode cX11_term 134 = .ok (.aload_n 0, 1) := by decide +kernel
theorem dX11_term_135 : decode cX11_term 135 = .ok (.getfield 10, 3) := by decide +kernel
theorem dX11_term_138 : decode cX11_term 138 = .ok (.getfield 32, 3) := by decide +kernel
theorem dX11_term_141 : decode cX11_term 141 = .ok (.getfield 102, 3) := by decide +kernel
theorem dX11_term_144 : decode cX11_term 144 = .ok (.bipush 50, 2) := by decide +kernel
theorem dX11_term_146 : decode cX11_term 146 = .ok (.if_icmp .lt 10, 3) := by decide +kernel
theorem dX11_term_149 : decode cX11_term 149 = .ok (.aload_n 0, 1) := by decide +kernel
theorem dX11_term_150 : decode cX11_term 150 = .ok (.bipush (-4), 2) := by decide +kernel
theorem dX11_term_152 : decode cX11_term 152 = .ok (.invokevirtual 88, 3) := by decide +kernel
theorem dX11_term_155 : decode cX11_term 155 = .ok (.ireturn, 1) := by decide +kernel
theorem dX11_term_156 : decode cX11_term 156 = .ok (.aload_n 0, 1) := by decide +kernel
theorem dX11_term_157 : decode cX11_term 157 = .ok (.getfield 19, 3) := by decide +kernel
theorem dX11_term_160 : decode cX11_term 160 = .ok (.aload_n 0, 1) := by decide +kernel
theorem dX11_term_161 : decode cX11_term 161 = .ok (.getfield 10, 3) := by decide +kernel
theorem dX11_term_164 : decode cX11_term 164 = .ok (.invokevirtual 105, 3) := by decide +kernel
theorem dX11_term_167 : decode cX11_term 167 = .ok (.iload 8, 2) := by decide +kernel
theorem dX11_term_169 : decode cX11_term 169 = .ok (.iconst (-1), 1) := by decide +kernel
theorem dX11_term_170 : decode cX11_term 170 = .ok (.if_icmp .ne 24, 3) := by decide +kernel
theorem dX11_term_173 : decode cX11_term 173 = .ok (.aload_n 0, 1) := by decide +kernel
theorem dX11_term_174 : decode cX11_term 174 = .ok (.getfield 10, 3) := by decide +kernel
theorem dX11_term_177 : decode cX11_term 177 = .ok (.getfield 32, 3) := by decide +kernel
theorem dX11_term_180 : decode cX11_term 180 = .ok (.iload_n 1, 1) := by decide +kernel
theorem dX11_term_181 : decode cX11_term 181 = .ok (.iload 6, 2) := by decide +kernel
theorem dX11_term_183 : decode cX11_term 183 = .ok (.iload 7, 2) := by decide +kernel
theorem dX11_term_185 : decode cX11_term 185 = .ok (.iconst 0, 1) := by decide +kernel
theorem dX11_term_186 : decode cX11_term 186 = .ok (.invokevirtual 109, 3) := by decide +kernel
theorem dX11_term_189 : decode cX11_term 189 = .ok (.istore 8, 2) := by decide +kernel
theorem dX11_term_191 : decode cX11_term 191 = .ok (.goto 17, 3) := by decide +kernel
theorem dX11_term_194 : decode cX11_term 194 = .ok (.aload_n 0, 1) := by decide +kernel
theorem dX11_term_195 : decode cX11_term 195 = .ok (.getfield 10, 3) := by decide +kernel
theorem dX11_term_198 : decode cX11_term 198 = .ok (.getfield 32, 3) := by decide +kernel
theorem dX11_term_201 : decode cX11_term 201 = .ok (.getfield 113, 3) := by decide +kernel
theorem dX11_term_204 : decode cX11_term 204 = .ok (.iload 8, 2) := by decide +kernel
theorem dX11_term_206 : decode cX11_term 206 = .ok (.iconst 0, 1) := by decide +kernel
theorem dX11_term_207 : decode cX11_term 207 = .ok (.iastore, 1) := by decide +kernel
theorem dX11_term_208 : decode cX11_term 208 = .ok (.aload_n 0, 1) := by decide +kernel
theorem dX11_term_209 : decode cX11_term 209 = .ok (.invokevirtual 116, 3) := by decide +kernel
theorem dX11_term_212 : decode cX11_term 212 = .ok (.iload 8, 2) := by decide +kernel
theorem dX11_term_214 : decode cX11_term 214 = .ok (.ireturn, 1) := by decide +kernel
theorem dX11_alike_0 : decode cX11_alike 0 = .ok (.aload_n 0, 1) := by decide +kernel
theorem dX11_alike_1 : decode cX11_alike 1 = .ok (.getfield 10, 3) := by decide +kernel
theorem dX11_alike_4 : decode cX11_alike 4 = .ok (.getfield 32, 3) := by decide +kernel
theorem dX11_alike_7 : decode cX11_alike 7 = .ok (.iload_n 1, 1) := by decide +kernel
theorem dX11_alike_8 : decode cX11_alike 8 = .ok (.invokevirtual 92, 3) := by decide +kernel
theorem dX11_alike_11 : decode cX11_alike 11 = .ok (.ifCond .eq 17, 3) := by decide +kernel
theorem dX11_alike_14 : decode cX11_alike 14 = .ok (.aload_n 0, 1) := by decide +kernel
theorem dX11_alike_15 : decode cX11_alike 15 = .ok (.getfield 10, 3) := by decide +kernel
theorem dX11_alike_18 : decode cX11_alike 18 = .ok (.getfield 32, 3) := by decide +kernel
theorem dX11_alike_21 : decode cX11_alike 21 = .ok (.iload_n 2, 1) := by decide +kernel
theorem dX11_alike_22 : decode cX11_alike 22 = .ok (.invokevirtual 92, 3) := by decide +kernel
theorem dX11_alike_25 : decode cX11_alike 25 = .ok (.ifCond .ne 10, 3) := by decide +kernel
theorem dX11_alike_28 : decode cX11_alike 28 = .ok (.aload_n 0, 1) := by decide +kernel
theorem dX11_alike_29 : decode cX11_alike 29 = .ok (.bipush (-2), 2) := by decide +kernel
theorem dX11_alike_31 : decode cX11_alike 31 = .ok (.invokevirtual 88, 3) := by decide +kernel
theorem dX11_alike_34 : decode cX11_alike 34 = .ok (.ireturn, 1) := by decide +kernel
theorem dX11_alike_35 : decode cX11_alike 35 = .ok (.aload_n 0, 1) := by decide +kernel
theorem dX11_alike_36 : decode cX11_alike 36 = .ok (.getfield 19, 3) := by decide +kernel
theorem dX11_alike_39 : decode cX11_alike 39 = .ok (.aload_n 0, 1) := by decide +kernel
theorem dX11_alike_40 : decode cX11_alike 40 = .ok (.getfield 10, 3) := by decide +kernel
theorem dX11_alike_43 : decode cX11_alike 43 = .ok (.invokevirtual 105, 3) := by decide +kernel
theorem dX11_alike_46 : decode cX11_alike 46 = .ok (.aload_n 0, 1) := by decide +kernel
theorem dX11_alike_47 : decode cX11_alike 47 = .ok (.invokevirtual 119, 3) := by decide +kernel
theorem dX11_alike_50 : decode cX11_alike 50 = .ok (.istore_n 3, 1) := by decide +kernel
theorem dX11_alike_51 : decode cX11_alike 51 = .ok (.aload_n 0, 1) := by decide +kernel
theorem dX11_alike_52 : decode cX11_alike 52 = .ok (.getfield 10, 3) := by decide +kernel
theorem dX11_alike_55 : decode cX11_alike 55 = .ok (.getfield 32, 3) := by decide +kernel
theorem dX11_alike_58 : decode cX11_alike 58 = .ok (.iload_n 1, 1) := by decide +kernel
theorem dX11_alike_59 : decode cX11_alike 59 = .ok (.iload_n 2, 1) := by decide +kernel
theorem dX11_alike_60 : decode cX11_alike 60 = .ok (.invokevirtual 123, 3) := by decide +kernel
theorem dX11_alike_63 : decode cX11_alike 63 = .ok (.pop, 1) := by decide +kernel
theorem dX11_alike_64 : decode cX11_alike 64 = .ok (.aload_n 0, 1) := by decide +kernel
theorem dX11_alike_65 : decode cX11_alike 65 = .ok (.invokevirtual 116, 3) := by decide +kernel
theorem dX11_alike_68 : decode cX11_alike 68 = .ok (.iload_n 3, 1) := by decide +kernel
theorem dX11_alike_69 : decode cX11_alike 69 = .ok (.aload_n 0, 1) := by decide +kernel
theorem dX11_alike_70 : decode cX11_alike 70 = .ok (.invokevirtual 119, 3) := by decide +kernel
theorem dX11_alike_73 : decode cX11_alike 73 = .ok (.isub, 1) := by decide +kernel
theorem dX11_alike_74 : decode cX11_alike 74 = .ok (.ireturn, 1) := by decide +kernel
theorem dX11_anew_0 : decode cX11_anew 0 = .ok (.aload_n 0, 1) := by decide +kernel
theorem dX11_anew_1 : decode cX11_anew 1 = .ok (.getfield 19, 3) := by decide +kernel
theorem dX11_anew_4 : decode cX11_anew 4 = .ok (.aload_n 0, 1) := by decide +kernel
theorem dX11_anew_5 : decode cX11_anew 5 = .ok (.getfield 10, 3) := by decide +kernel
theorem dX11_anew_8 : decode cX11_anew 8 = .ok (.invokevirtual 105, 3) := by decide +kernel
theorem dX11_anew_11 : decode cX11_anew 11 = .ok (.aload_n 0, 1) := by decide +kernel
theorem dX11_anew_12 : decode cX11_anew 12 = .ok (.getfield 10, 3) := by decide +kernel
theorem dX11_anew_15 : decode cX11_anew 15 = .ok (.getfield 32, 3) := by decide +kernel
theorem dX11_anew_18 : decode cX11_anew 18 = .ok (.getfield 102, 3) := by decide +kernel
theorem dX11_anew_21 : decode cX11_anew 21 = .ok (.istore_n 1, 1) := by decide +kernel
theorem dX11_anew_22 : decode cX11_anew 22 = .ok (.aload_n 0, 1) := by decide +kernel
theorem dX11_anew_23 : decode cX11_anew 23 = .ok (.getfield 10, 3) := by decide +kernel
theorem dX11_anew_26 : decode cX11_anew 26 = .ok (.invokevirtual 127, 3) := by decide +kernel
theorem dX11_anew_29 : decode cX11_anew 29 = .ok (.aload_n 0, 1) := by decide +kernel
theorem dX11_anew_30 : decode cX11_anew 30 = .ok (.invokevirtual 116, 3) := by decide +kernel
theorem dX11_anew_33 : decode cX11_anew 33 = .ok (.iload_n 1, 1) := by decide +kernel
theorem dX11_anew_34 : decode cX11_anew 34 = .ok (.ireturn, 1) := by decide +kernel
theorem dX11_of_0 : decode cX11_of 0 = .ok (.aload_n 0, 1) := by decide +kernel
theorem dX11_of_1 : decode cX11_of 1 = .ok (.getfield 10, 3) := by decide +kernel
theorem dX11_of_4 : decode cX11_of 4 = .ok (.getfield 32, 3) := by decide +kernel
theorem dX11_of_7 : decode cX11_of 7 = .ok (.iload_n 1, 1) := by decide +kernel
theorem dX11_of_8 : decode cX11_of 8 = .ok (.invokevirtual 92, 3) := by decide +kernel
theorem dX11_of_11 : decode cX11_of 11 = .ok (.ifCond .ne 10, 3) := by decide +kernel
theorem dX11_of_14 : decode cX11_of 14 = .ok (.aload_n 0, 1) := by decide +kernel
theorem dX11_of_15 : decode cX11_of 15 = .ok (.bipush (-2), 2) := by decide +kernel
theorem dX11_of_17 : decode cX11_of 17 = .ok (.invokevirtual 88, 3) := by decide +kernel
theorem dX11_of_20 : decode cX11_of 20 = .ok (.ireturn, 1) := by decide +kernel
theorem dX11_of_21 : decode cX11_of 21 = .ok (.iload_n 2, 1) := by decide +kernel
theorem dX11_of_22 : decode cX11_of 22 = .ok (.tableswitch 99 0 4 #[34, 47, 60, 73, 86], 34) := by decide +kernel
theorem dX11_of_56 : decode cX11_of 56 = .ok (.aload_n 0, 1) := by decide +kernel
theorem dX11_of_57 : decode cX11_of 57 = .ok (.getfield 10, 3) := by decide +kernel
theorem dX11_of_60 : decode cX11_of 60 = .ok (.getfield 32, 3) := by decide +kernel
theorem dX11_of_63 : decode cX11_of 63 = .ok (.getfield 130, 3) := by decide +kernel
theorem dX11_of_66 : decode cX11_of 66 = .ok (.iload_n 1, 1) := by decide +kernel
theorem dX11_of_67 : decode cX11_of 67 = .ok (.iaload, 1) := by decide +kernel
theorem dX11_of_68 : decode cX11_of 68 = .ok (.ireturn, 1) := by decide +kernel
theorem dX11_of_69 : decode cX11_of 69 = .ok (.aload_n 0, 1) := by decide +kernel
theorem dX11_of_70 : decode cX11_of 70 = .ok (.getfield 10, 3) := by decide +kernel
theorem dX11_of_73 : decode cX11_of 73 = .ok (.getfield 32, 3) := by decide +kernel
theorem dX11_of_76 : decode cX11_of 76 = .ok (.getfield 133, 3) := by decide +kernel
theorem dX11_of_79 : decode cX11_of 79 = .ok (.iload_n 1, 1) := by decide +kernel
theorem dX11_of_80 : decode cX11_of 80 = .ok (.iaload, 1) := by decide +kernel
theorem dX11_of_81 : decode cX11_of 81 = .ok (.ireturn, 1) := by decide +kernel
theorem dX11_of_82 : decode cX11_of 82 = .ok (.aload_n 0, 1) := by decide +kernel
theorem dX11_of_83 : decode cX11_of 83 = .ok (.getfield 10, 3) := by decide +kernel
theorem dX11_of_86 : decode cX11_of 86 = .ok (.getfield 32, 3) := by decide +kernel
theorem dX11_of_89 : decode cX11_of 89 = .ok (.getfield 136, 3) := by decide +kernel
theorem dX11_of_92 : decode cX11_of 92 = .ok (.iload_n 1, 1) := by decide +kernel
theorem dX11_of_93 : decode cX11_of 93 = .ok (.iaload, 1) := by decide +kernel
theorem dX11_of_94 : decode cX11_of 94 = .ok (.ireturn, 1) := by decide +kernel
theorem dX11_of_95 : decode cX11_of 95 = .ok (.aload_n 0, 1) := by decide +kernel
theorem dX11_of_96 : decode cX11_of 96 = .ok (.getfield 10, 3) := by decide +kernel
theorem dX11_of_99 : decode cX11_of 99 = .ok (.getfield 32, 3) := by decide +kernel
theorem dX11_of_102 : decode cX11_of 102 = .ok (.getfield 113, 3) := by decide +kernel
theorem dX11_of_105 : decode cX11_of 105 = .ok (.iload_n 1, 1) := by decide +kernel
theorem dX11_of_106 : decode cX11_of 106 = .ok (.iaload, 1) := by decide +kernel
theorem dX11_of_107 : decode cX11_of 107 = .ok (.ireturn, 1) := by decide +kernel
theorem dX11_of_108 : decode cX11_of 108 = .ok (.aload_n 0, 1) := by decide +kernel
theorem dX11_of_109 : decode cX11_of 109 = .ok (.getfield 10, 3) := by decide +kernel
theorem dX11_of_112 : decode cX11_of 112 = .ok (.getfield 32, 3) := by decide +kernel
theorem dX11_of_115 : decode cX11_of 115 = .ok (.getfield 139, 3) := by decide +kernel
theorem dX11_of_118 : decode cX11_of 118 = .ok (.iload_n 1, 1) := by decide +kernel
theorem dX11_of_119 : decode cX11_of 119 = .ok (.iaload, 1) := by decide +kernel
theorem dX11_of_120 : decode cX11_of 120 = .ok (.ireturn, 1) := by decide +kernel
theorem dX11_of_121 : decode cX11_of 121 = .ok (.aload_n 0, 1) := by decide +kernel
theorem dX11_of_122 : decode cX11_of 122 = .ok (.bipush (-2), 2) := by decide +kernel
theorem dX11_of_124 : decode cX11_of 124 = .ok (.invokevirtual 88, 3) := by decide +kernel
theorem dX11_of_127 : decode cX11_of 127 = .ok (.ireturn, 1) := by decide +kernel
theorem dX11_same_0 : decode cX11_same 0 = .ok (.aload_n 0, 1) := by decide +kernel
theorem dX11_same_1 : decode cX11_same 1 = .ok (.getfield 10, 3) := by decide +kernel
theorem dX11_same_4 : decode cX11_same 4 = .ok (.getfield 32, 3) := by decide +kernel
theorem dX11_same_7 : decode cX11_same 7 = .ok (.iload_n 1, 1) := by decide +kernel
theorem dX11_same_8 : decode cX11_same 8 = .ok (.invokevirtual 92, 3) := by decide +kernel
theorem dX11_same_11 : decode cX11_same 11 = .ok (.ifCond .eq 17, 3) := by decide +kernel
theorem dX11_same_14 : decode cX11_same 14 = .ok (.aload_n 0, 1) := by decide +kernel
theorem dX11_same_15 : decode cX11_same 15 = .ok (.getfield 10, 3) := by decide +kernel
theorem dX11_same_18 : decode cX11_same 18 = .ok (.getfield 32, 3) := by decide +kernel
theorem dX11_same_21 : decode cX11_same 21 = .ok (.iload_n 2, 1) := by decide +kernel
theorem dX11_same_22 : decode cX11_same 22 = .ok (.invokevirtual 92, 3) := by decide +kernel
theorem dX11_same_25 : decode cX11_same 25 = .ok (.ifCond .ne 10, 3) := by decide +kernel
theorem dX11_same_28 : decode cX11_same 28 = .ok (.aload_n 0, 1) := by decide +kernel
theorem dX11_same_29 : decode cX11_same 29 = .ok (.bipush (-2), 2) := by decide +kernel
theorem dX11_same_31 : decode cX11_same 31 = .ok (.invokevirtual 88, 3) := by decide +kernel
theorem dX11_same_34 : decode cX11_same 34 = .ok (.ireturn, 1) := by decide +kernel
theorem dX11_same_35 : decode cX11_same 35 = .ok (.aload_n 0, 1) := by decide +kernel
theorem dX11_same_36 : decode cX11_same 36 = .ok (.getfield 10, 3) := by decide +kernel
theorem dX11_same_39 : decode cX11_same 39 = .ok (.getfield 32, 3) := by decide +kernel
theorem dX11_same_42 : decode cX11_same 42 = .ok (.getfield 139, 3) := by decide +kernel
theorem dX11_same_45 : decode cX11_same 45 = .ok (.iload_n 1, 1) := by decide +kernel
theorem dX11_same_46 : decode cX11_same 46 = .ok (.iaload, 1) := by decide +kernel
theorem dX11_same_47 : decode cX11_same 47 = .ok (.aload_n 0, 1) := by decide +kernel
theorem dX11_same_48 : decode cX11_same 48 = .ok (.getfield 10, 3) := by decide +kernel
theorem dX11_same_51 : decode cX11_same 51 = .ok (.getfield 32, 3) := by decide +kernel
theorem dX11_same_54 : decode cX11_same 54 = .ok (.getfield 139, 3) := by decide +kernel
theorem dX11_same_57 : decode cX11_same 57 = .ok (.iload_n 2, 1) := by decide +kernel
theorem dX11_same_58 : decode cX11_same 58 = .ok (.iaload, 1) := by decide +kernel
theorem dX11_same_59 : decode cX11_same 59 = .ok (.if_icmp .ne 7, 3) := by decide +kernel
theorem dX11_same_62 : decode cX11_same 62 = .ok (.iconst 1, 1) := by decide +kernel
theorem dX11_same_63 : decode cX11_same 63 = .ok (.goto 4, 3) := by decide +kernel
theorem dX11_same_66 : decode cX11_same 66 = .ok (.iconst 0, 1) := by decide +kernel
theorem dX11_same_67 : decode cX11_same 67 = .ok (.ireturn, 1) := by decide +kernel
theorem dX11_classes_0 : decode cX11_classes 0 = .ok (.aload_n 0, 1) := by decide +kernel
theorem dX11_classes_1 : decode cX11_classes 1 = .ok (.getfield 10, 3) := by decide +kernel
theorem dX11_classes_4 : decode cX11_classes 4 = .ok (.getfield 32, 3) := by decide +kernel
theorem dX11_classes_7 : decode cX11_classes 7 = .ok (.aload_n 0, 1) := by decide +kernel
theorem dX11_classes_8 : decode cX11_classes 8 = .ok (.getfield 10, 3) := by decide +kernel
theorem dX11_classes_11 : decode cX11_classes 11 = .ok (.getfield 32, 3) := by decide +kernel
theorem dX11_classes_14 : decode cX11_classes 14 = .ok (.getfield 102, 3) := by decide +kernel
theorem dX11_classes_17 : decode cX11_classes 17 = .ok (.invokevirtual 142, 3) := by decide +kernel
theorem dX11_classes_20 : decode cX11_classes 20 = .ok (.ireturn, 1) := by decide +kernel
theorem dX11_about_0 : decode cX11_about 0 = .ok (.aload_n 0, 1) := by decide +kernel
theorem dX11_about_1 : decode cX11_about 1 = .ok (.getfield 10, 3) := by decide +kernel
theorem dX11_about_4 : decode cX11_about 4 = .ok (.getfield 32, 3) := by decide +kernel
theorem dX11_about_7 : decode cX11_about 7 = .ok (.iload_n 1, 1) := by decide +kernel
theorem dX11_about_8 : decode cX11_about 8 = .ok (.invokevirtual 92, 3) := by decide +kernel
theorem dX11_about_11 : decode cX11_about 11 = .ok (.ifCond .ne 10, 3) := by decide +kernel
theorem dX11_about_14 : decode cX11_about 14 = .ok (.aload_n 0, 1) := by decide +kernel
theorem dX11_about_15 : decode cX11_about 15 = .ok (.bipush (-2), 2) := by decide +kernel
theorem dX11_about_17 : decode cX11_about 17 = .ok (.invokevirtual 88, 3) := by decide +kernel
theorem dX11_about_20 : decode cX11_about 20 = .ok (.ireturn, 1) := by decide +kernel
theorem dX11_about_21 : decode cX11_about 21 = .ok (.aload_n 0, 1) := by decide +kernel
theorem dX11_about_22 : decode cX11_about 22 = .ok (.getfield 10, 3) := by decide +kernel
theorem dX11_about_25 : decode cX11_about 25 = .ok (.getfield 32, 3) := by decide +kernel
theorem dX11_about_28 : decode cX11_about 28 = .ok (.getfield 139, 3) := by decide +kernel
theorem dX11_about_31 : decode cX11_about 31 = .ok (.iload_n 1, 1) := by decide +kernel
theorem dX11_about_32 : decode cX11_about 32 = .ok (.iaload, 1) := by decide +kernel
theorem dX11_about_33 : decode cX11_about 33 = .ok (.istore_n 3, 1) := by decide +kernel
theorem dX11_about_34 : decode cX11_about 34 = .ok (.iload_n 2, 1) := by decide +kernel
theorem dX11_about_35 : decode cX11_about 35 = .ok (.tableswitch 81 0 3 #[29, 41, 53, 69], 29) := by decide +kernel
theorem dX11_about_64 : decode cX11_about 64 = .ok (.aload_n 0, 1) := by decide +kernel
theorem dX11_about_65 : decode cX11_about 65 = .ok (.getfield 10, 3) := by decide +kernel
theorem dX11_about_68 : decode cX11_about 68 = .ok (.getfield 32, 3) := by decide +kernel
theorem dX11_about_71 : decode cX11_about 71 = .ok (.iload_n 3, 1) := by decide +kernel
theorem dX11_about_72 : decode cX11_about 72 = .ok (.invokevirtual 145, 3) := by decide +kernel
theorem dX11_about_75 : decode cX11_about 75 = .ok (.ireturn, 1) := by decide +kernel
theorem dX11_about_76 : decode cX11_about 76 = .ok (.aload_n 0, 1) := by decide +kernel
theorem dX11_about_77 : decode cX11_about 77 = .ok (.getfield 10, 3) := by decide +kernel
theorem dX11_about_80 : decode cX11_about 80 = .ok (.getfield 32, 3) := by decide +kernel
theorem dX11_about_83 : decode cX11_about 83 = .ok (.iload_n 3, 1) := by decide +kernel
theorem dX11_about_84 : decode cX11_about 84 = .ok (.invokevirtual 148, 3) := by decide +kernel
theorem dX11_about_87 : decode cX11_about 87 = .ok (.ireturn, 1) := by decide +kernel
theorem dX11_about_88 : decode cX11_about 88 = .ok (.aload_n 0, 1) := by decide +kernel
theorem dX11_about_89 : decode cX11_about 89 = .ok (.getfield 26, 3) := by decide +kernel
theorem dX11_about_92 : decode cX11_about 92 = .ok (.aload_n 0, 1) := by decide +kernel
theorem dX11_about_93 : decode cX11_about 93 = .ok (.getfield 10, 3) := by decide +kernel
theorem dX11_about_96 : decode cX11_about 96 = .ok (.getfield 32, 3) := by decide +kernel
theorem dX11_about_99 : decode cX11_about 99 = .ok (.iload_n 3, 1) := by decide +kernel
theorem dX11_about_100 : decode cX11_about 100 = .ok (.invokevirtual 151, 3) := by decide +kernel
theorem dX11_about_103 : decode cX11_about 103 = .ok (.ireturn, 1) := by decide +kernel
theorem dX11_about_104 : decode cX11_about 104 = .ok (.aload_n 0, 1) := by decide +kernel
theorem dX11_about_105 : decode cX11_about 105 = .ok (.getfield 10, 3) := by decide +kernel
theorem dX11_about_108 : decode cX11_about 108 = .ok (.getfield 32, 3) := by decide +kernel
theorem dX11_about_111 : decode cX11_about 111 = .ok (.iload_n 3, 1) := by decide +kernel
theorem dX11_about_112 : decode cX11_about 112 = .ok (.invokevirtual 155, 3) := by decide +kernel
theorem dX11_about_115 : decode cX11_about 115 = .ok (.ireturn, 1) := by decide +kernel
theorem dX11_about_116 : decode cX11_about 116 = .ok (.aload_n 0, 1) := by decide +kernel
theorem dX11_about_117 : decode cX11_about 117 = .ok (.bipush (-2), 2) := by decide +kernel
theorem dX11_about_119 : decode cX11_about 119 = .ok (.invokevirtual 88, 3) := by decide +kernel
theorem dX11_about_122 : decode cX11_about 122 = .ok (.ireturn, 1) := by decide +kernel
theorem dX11_rule_0 : decode cX11_rule 0 = .ok (.aload_n 0, 1) := by decide +kernel
theorem dX11_rule_1 : decode cX11_rule 1 = .ok (.getfield 10, 3) := by decide +kernel
theorem dX11_rule_4 : decode cX11_rule 4 = .ok (.iload_n 1, 1) := by decide +kernel
theorem dX11_rule_5 : decode cX11_rule 5 = .ok (.invokevirtual 158, 3) := by decide +kernel
theorem dX11_rule_8 : decode cX11_rule 8 = .ok (.ifCond .ne 10, 3) := by decide +kernel
theorem dX11_rule_11 : decode cX11_rule 11 = .ok (.aload_n 0, 1) := by decide +kernel
theorem dX11_rule_12 : decode cX11_rule 12 = .ok (.bipush (-2), 2) := by decide +kernel
theorem dX11_rule_14 : decode cX11_rule 14 = .ok (.invokevirtual 88, 3) := by decide +kernel
theorem dX11_rule_17 : decode cX11_rule 17 = .ok (.ireturn, 1) := by decide +kernel
theorem dX11_rule_18 : decode cX11_rule 18 = .ok (.aload_n 0, 1) := by decide +kernel
theorem dX11_rule_19 : decode cX11_rule 19 = .ok (.getfield 10, 3) := by decide +kernel
theorem dX11_rule_22 : decode cX11_rule 22 = .ok (.iload_n 1, 1) := by decide +kernel
theorem dX11_rule_23 : decode cX11_rule 23 = .ok (.invokevirtual 161, 3) := by decide +kernel
theorem dX11_rule_26 : decode cX11_rule 26 = .ok (.astore_n 3, 1) := by decide +kernel
theorem dX11_rule_27 : decode cX11_rule 27 = .ok (.iload_n 2, 1) := by decide +kernel
theorem dX11_rule_28 : decode cX11_rule 28 = .ok (.tableswitch 100 0 4 #[36, 49, 59, 72, 84], 36) := by decide +kernel
theorem dX11_rule_64 : decode cX11_rule 64 = .ok (.aload_n 3, 1) := by decide +kernel
theorem dX11_rule_65 : decode cX11_rule 65 = .ok (.iconst 0, 1) := by decide +kernel
theorem dX11_rule_66 : decode cX11_rule 66 = .ok (.aload_n 3, 1) := by decide +kernel
theorem dX11_rule_67 : decode cX11_rule 67 = .ok (.getfield 165, 3) := by decide +kernel
theorem dX11_rule_70 : decode cX11_rule 70 = .ok (.invokevirtual 170, 3) := by decide +kernel
theorem dX11_rule_73 : decode cX11_rule 73 = .ok (.invokestatic 174, 3) := by decide +kernel
theorem dX11_rule_76 : decode cX11_rule 76 = .ok (.ireturn, 1) := by decide +kernel
theorem dX11_rule_77 : decode cX11_rule 77 = .ok (.aload_n 3, 1) := by decide +kernel
theorem dX11_rule_78 : decode cX11_rule 78 = .ok (.iconst 0, 1) := by decide +kernel
theorem dX11_rule_79 : decode cX11_rule 79 = .ok (.aload_n 3, 1) := by decide +kernel
theorem dX11_rule_80 : decode cX11_rule 80 = .ok (.getfield 165, 3) := by decide +kernel
theorem dX11_rule_83 : decode cX11_rule 83 = .ok (.invokevirtual 179, 3) := by decide +kernel
theorem dX11_rule_86 : decode cX11_rule 86 = .ok (.ireturn, 1) := by decide +kernel
theorem dX11_rule_87 : decode cX11_rule 87 = .ok (.aload_n 3, 1) := by decide +kernel
theorem dX11_rule_88 : decode cX11_rule 88 = .ok (.aload_n 3, 1) := by decide +kernel
theorem dX11_rule_89 : decode cX11_rule 89 = .ok (.getfield 165, 3) := by decide +kernel
theorem dX11_rule_92 : decode cX11_rule 92 = .ok (.aload_n 3, 1) := by decide +kernel
theorem dX11_rule_93 : decode cX11_rule 93 = .ok (.getfield 182, 3) := by decide +kernel
theorem dX11_rule_96 : decode cX11_rule 96 = .ok (.invokevirtual 179, 3) := by decide +kernel
theorem dX11_rule_99 : decode cX11_rule 99 = .ok (.ireturn, 1) := by decide +kernel
theorem dX11_rule_100 : decode cX11_rule 100 = .ok (.aload_n 0, 1) := by decide +kernel
theorem dX11_rule_101 : decode cX11_rule 101 = .ok (.getfield 48, 3) := by decide +kernel
theorem dX11_rule_104 : decode cX11_rule 104 = .ok (.iload_n 1, 1) := by decide +kernel
theorem dX11_rule_105 : decode cX11_rule 105 = .ok (.invokevirtual 183, 3) := by decide +kernel
theorem dX11_rule_108 : decode cX11_rule 108 = .ok (.getfield 187, 3) := by decide +kernel
theorem dX11_rule_111 : decode cX11_rule 111 = .ok (.ireturn, 1) := by decide +kernel
theorem dX11_rule_112 : decode cX11_rule 112 = .ok (.aload_n 0, 1) := by decide +kernel
theorem dX11_rule_113 : decode cX11_rule 113 = .ok (.getfield 48, 3) := by decide +kernel
theorem dX11_rule_116 : decode cX11_rule 116 = .ok (.iload_n 1, 1) := by decide +kernel
theorem dX11_rule_117 : decode cX11_rule 117 = .ok (.invokevirtual 183, 3) := by decide +kernel
theorem dX11_rule_120 : decode cX11_rule 120 = .ok (.aload_n 0, 1) := by decide +kernel
theorem dX11_rule_121 : decode cX11_rule 121 = .ok (.getfield 85, 3) := by decide +kernel
theorem dX11_rule_124 : decode cX11_rule 124 = .ok (.invokevirtual 190, 3) := by decide +kernel
theorem dX11_rule_127 : decode cX11_rule 127 = .ok (.ireturn, 1) := by decide +kernel
theorem dX11_rule_128 : decode cX11_rule 128 = .ok (.aload_n 0, 1) := by decide +kernel
theorem dX11_rule_129 : decode cX11_rule 129 = .ok (.bipush (-2), 2) := by decide +kernel
theorem dX11_rule_131 : decode cX11_rule 131 = .ok (.invokevirtual 88, 3) := by decide +kernel
theorem dX11_rule_134 : decode cX11_rule 134 = .ok (.ireturn, 1) := by decide +kernel
theorem dX11_finding_0 : decode cX11_finding 0 = .ok (.aload_n 0, 1) := by decide +kernel
theorem dX11_finding_1 : decode cX11_finding 1 = .ok (.getfield 10, 3) := by decide +kernel
theorem dX11_finding_4 : decode cX11_finding 4 = .ok (.iload_n 1, 1) := by decide +kernel
theorem dX11_finding_5 : decode cX11_finding 5 = .ok (.invokevirtual 158, 3) := by decide +kernel
theorem dX11_finding_8 : decode cX11_finding 8 = .ok (.ifCond .eq 16, 3) := by decide +kernel
theorem dX11_finding_11 : decode cX11_finding 11 = .ok (.iload_n 2, 1) := by decide +kernel
theorem dX11_finding_12 : decode cX11_finding 12 = .ok (.ifCond .lt 12, 3) := by decide +kernel
theorem dX11_finding_15 : decode cX11_finding 15 = .ok (.iload_n 3, 1) := by decide +kernel
theorem dX11_finding_16 : decode cX11_finding 16 = .ok (.ifCond .lt 8, 3) := by decide +kernel
theorem dX11_finding_19 : decode cX11_finding 19 = .ok (.iload_n 3, 1) := by decide +kernel
theorem dX11_finding_20 : decode cX11_finding 20 = .ok (.iconst 4, 1) := by decide +kernel
theorem dX11_finding_21 : decode cX11_finding 21 = .ok (.if_icmp .le 10, 3) := by decide +kernel
theorem dX11_finding_24 : decode cX11_finding 24 = .ok (.aload_n 0, 1) := by decide +kernel
theorem dX11_finding_25 : decode cX11_finding 25 = .ok (.bipush (-2), 2) := by decide +kernel
theorem dX11_finding_27 : decode cX11_finding 27 = .ok (.invokevirtual 88, 3) := by decide +kernel
theorem dX11_finding_30 : decode cX11_finding 30 = .ok (.ireturn, 1) := by decide +kernel
theorem dX11_finding_31 : decode cX11_finding 31 = .ok (.aload_n 0, 1) := by decide +kernel
theorem dX11_finding_32 : decode cX11_finding 32 = .ok (.getfield 48, 3) := by decide +kernel
theorem dX11_finding_35 : decode cX11_finding 35 = .ok (.iload_n 1, 1) := by decide +kernel
theorem dX11_finding_36 : decode cX11_finding 36 = .ok (.invokevirtual 183, 3) := by decide +kernel
theorem dX11_finding_39 : decode cX11_finding 39 = .ok (.astore 4, 2) := by decide +kernel
theorem dX11_finding_41 : decode cX11_finding 41 = .ok (.aload 4, 2) := by decide +kernel
theorem dX11_finding_43 : decode cX11_finding 43 = .ok (.iload_n 2, 1) := by decide +kernel
theorem dX11_finding_44 : decode cX11_finding 44 = .ok (.iload_n 3, 1) := by decide +kernel
theorem dX11_finding_45 : decode cX11_finding 45 = .ok (.invokevirtual 193, 3) := by decide +kernel
theorem dX11_finding_48 : decode cX11_finding 48 = .ok (.ireturn, 1) := by decide +kernel
theorem dX11_drop_0 : decode cX11_drop 0 = .ok (.aload_n 0, 1) := by decide +kernel
theorem dX11_drop_1 : decode cX11_drop 1 = .ok (.getfield 10, 3) := by decide +kernel
theorem dX11_drop_4 : decode cX11_drop 4 = .ok (.iload_n 1, 1) := by decide +kernel
theorem dX11_drop_5 : decode cX11_drop 5 = .ok (.invokevirtual 158, 3) := by decide +kernel
theorem dX11_drop_8 : decode cX11_drop 8 = .ok (.ifCond .ne 10, 3) := by decide +kernel
theorem dX11_drop_11 : decode cX11_drop 11 = .ok (.aload_n 0, 1) := by decide +kernel
theorem dX11_drop_12 : decode cX11_drop 12 = .ok (.bipush (-2), 2) := by decide +kernel
theorem dX11_drop_14 : decode cX11_drop 14 = .ok (.invokevirtual 88, 3) := by decide +kernel
theorem dX11_drop_17 : decode cX11_drop 17 = .ok (.ireturn, 1) := by decide +kernel
theorem dX11_drop_18 : decode cX11_drop 18 = .ok (.aload_n 0, 1) := by decide +kernel
theorem dX11_drop_19 : decode cX11_drop 19 = .ok (.getfield 19, 3) := by decide +kernel
theorem dX11_drop_22 : decode cX11_drop 22 = .ok (.aload_n 0, 1) := by decide +kernel
theorem dX11_drop_23 : decode cX11_drop 23 = .ok (.getfield 10, 3) := by decide +kernel
theorem dX11_drop_26 : decode cX11_drop 26 = .ok (.invokevirtual 105, 3) := by decide +kernel
theorem dX11_drop_29 : decode cX11_drop 29 = .ok (.aload_n 0, 1) := by decide +kernel
theorem dX11_drop_30 : decode cX11_drop 30 = .ok (.getfield 10, 3) := by decide +kernel
theorem dX11_drop_33 : decode cX11_drop 33 = .ok (.iload_n 1, 1) := by decide +kernel
theorem dX11_drop_34 : decode cX11_drop 34 = .ok (.invokevirtual 196, 3) := by decide +kernel
theorem dX11_drop_37 : decode cX11_drop 37 = .ok (.aload_n 0, 1) := by decide +kernel
theorem dX11_drop_38 : decode cX11_drop 38 = .ok (.getfield 48, 3) := by decide +kernel
theorem dX11_drop_41 : decode cX11_drop 41 = .ok (.invokevirtual 200, 3) := by decide +kernel
theorem dX11_drop_44 : decode cX11_drop 44 = .ok (.aload_n 0, 1) := by decide +kernel
theorem dX11_drop_45 : decode cX11_drop 45 = .ok (.getfield 10, 3) := by decide +kernel
theorem dX11_drop_48 : decode cX11_drop 48 = .ok (.getfield 203, 3) := by decide +kernel
theorem dX11_drop_51 : decode cX11_drop 51 = .ok (.ireturn, 1) := by decide +kernel
theorem dX11_sets_0 : decode cX11_sets 0 = .ok (.iload_n 1, 1) := by decide +kernel
theorem dX11_sets_1 : decode cX11_sets 1 = .ok (.ifCond .ne 7, 3) := by decide +kernel
theorem dX11_sets_4 : decode cX11_sets 4 = .ok (.iconst 3, 1) := by decide +kernel
theorem dX11_sets_5 : decode cX11_sets 5 = .ok (.goto 5, 3) := by decide +kernel
theorem dX11_sets_8 : decode cX11_sets 8 = .ok (.bipush 9, 2) := by decide +kernel
theorem dX11_sets_10 : decode cX11_sets 10 = .ok (.istore_n 3, 1) := by decide +kernel
theorem dX11_sets_11 : decode cX11_sets 11 = .ok (.iload_n 1, 1) := by decide +kernel
theorem dX11_sets_12 : decode cX11_sets 12 = .ok (.ifCond .lt 17, 3) := by decide +kernel
theorem dX11_sets_15 : decode cX11_sets 15 = .ok (.iload_n 1, 1) := by decide +kernel
theorem dX11_sets_16 : decode cX11_sets 16 = .ok (.iconst 1, 1) := by decide +kernel
theorem dX11_sets_17 : decode cX11_sets 17 = .ok (.if_icmp .gt 12, 3) := by decide +kernel
theorem dX11_sets_20 : decode cX11_sets 20 = .ok (.iload_n 2, 1) := by decide +kernel
theorem dX11_sets_21 : decode cX11_sets 21 = .ok (.ifCond .lt 8, 3) := by decide +kernel
theorem dX11_sets_24 : decode cX11_sets 24 = .ok (.iload_n 2, 1) := by decide +kernel
theorem dX11_sets_25 : decode cX11_sets 25 = .ok (.iload_n 3, 1) := by decide +kernel
theorem dX11_sets_26 : decode cX11_sets 26 = .ok (.if_icmp .le 10, 3) := by decide +kernel
theorem dX11_sets_29 : decode cX11_sets 29 = .ok (.aload_n 0, 1) := by decide +kernel
theorem dX11_sets_30 : decode cX11_sets 30 = .ok (.bipush (-2), 2) := by decide +kernel
theorem dX11_sets_32 : decode cX11_sets 32 = .ok (.invokevirtual 88, 3) := by decide +kernel
theorem dX11_sets_35 : decode cX11_sets 35 = .ok (.ireturn, 1) := by decide +kernel
theorem dX11_sets_36 : decode cX11_sets 36 = .ok (.iload_n 1, 1) := by decide +kernel
theorem dX11_sets_37 : decode cX11_sets 37 = .ok (.ifCond .ne 10, 3) := by decide +kernel
theorem dX11_sets_40 : decode cX11_sets 40 = .ok (.aload_n 0, 1) := by decide +kernel
theorem dX11_sets_41 : decode cX11_sets 41 = .ok (.getfield 81, 3) := by decide +kernel
theorem dX11_sets_44 : decode cX11_sets 44 = .ok (.goto 7, 3) := by decide +kernel
theorem dX11_sets_47 : decode cX11_sets 47 = .ok (.aload_n 0, 1) := by decide +kernel
theorem dX11_sets_48 : decode cX11_sets 48 = .ok (.getfield 85, 3) := by decide +kernel
theorem dX11_sets_51 : decode cX11_sets 51 = .ok (.istore 4, 2) := by decide +kernel
theorem dX11_sets_53 : decode cX11_sets 53 = .ok (.iload_n 1, 1) := by decide +kernel
theorem dX11_sets_54 : decode cX11_sets 54 = .ok (.ifCond .ne 11, 3) := by decide +kernel
theorem dX11_sets_57 : decode cX11_sets 57 = .ok (.aload_n 0, 1) := by decide +kernel
theorem dX11_sets_58 : decode cX11_sets 58 = .ok (.iload_n 2, 1) := by decide +kernel
theorem dX11_sets_59 : decode cX11_sets 59 = .ok (.putfield 81, 3) := by decide +kernel
theorem dX11_sets_62 : decode cX11_sets 62 = .ok (.goto 8, 3) := by decide +kernel
theorem dX11_sets_65 : decode cX11_sets 65 = .ok (.aload_n 0, 1) := by decide +kernel
theorem dX11_sets_66 : decode cX11_sets 66 = .ok (.iload_n 2, 1) := by decide +kernel
theorem dX11_sets_67 : decode cX11_sets 67 = .ok (.putfield 85, 3) := by decide +kernel
theorem dX11_sets_70 : decode cX11_sets 70 = .ok (.iload 4, 2) := by decide +kernel
theorem dX11_sets_72 : decode cX11_sets 72 = .ok (.ireturn, 1) := by decide +kernel
theorem dX11_round_0 : decode cX11_round 0 = .ok (.aload_n 0, 1) := by decide +kernel
theorem dX11_round_1 : decode cX11_round 1 = .ok (.getfield 19, 3) := by decide +kernel
theorem dX11_round_4 : decode cX11_round 4 = .ok (.aload_n 0, 1) := by decide +kernel
theorem dX11_round_5 : decode cX11_round 5 = .ok (.getfield 10, 3) := by decide +kernel
theorem dX11_round_8 : decode cX11_round 8 = .ok (.invokevirtual 105, 3) := by decide +kernel
theorem dX11_round_11 : decode cX11_round 11 = .ok (.aload_n 0, 1) := by decide +kernel
theorem dX11_round_12 : decode cX11_round 12 = .ok (.getfield 57, 3) := by decide +kernel
theorem dX11_round_15 : decode cX11_round 15 = .ok (.aload_n 0, 1) := by decide +kernel
theorem dX11_round_16 : decode cX11_round 16 = .ok (.getfield 81, 3) := by decide +kernel
theorem dX11_round_19 : decode cX11_round 19 = .ok (.aload_n 0, 1) := by decide +kernel
theorem dX11_round_20 : decode cX11_round 20 = .ok (.getfield 85, 3) := by decide +kernel
theorem dX11_round_23 : decode cX11_round 23 = .ok (.invokevirtual 206, 3) := by decide +kernel
theorem dX11_round_26 : decode cX11_round 26 = .ok (.ireturn, 1) := by decide +kernel
theorem dX11_rounds_0 : decode cX11_rounds 0 = .ok (.iload_n 1, 1) := by decide +kernel
theorem dX11_rounds_1 : decode cX11_rounds 1 = .ok (.iconst 1, 1) := by decide +kernel
theorem dX11_rounds_2 : decode cX11_rounds 2 = .ok (.if_icmp .lt 9, 3) := by decide +kernel
theorem dX11_rounds_5 : decode cX11_rounds 5 = .ok (.iload_n 1, 1) := by decide +kernel
theorem dX11_rounds_6 : decode cX11_rounds 6 = .ok (.bipush 9, 2) := by decide +kernel
theorem dX11_rounds_8 : decode cX11_rounds 8 = .ok (.if_icmp .le 10, 3) := by decide +kernel
theorem dX11_rounds_11 : decode cX11_rounds 11 = .ok (.aload_n 0, 1) := by decide +kernel
theorem dX11_rounds_12 : decode cX11_rounds 12 = .ok (.bipush (-2), 2) := by decide +kernel
theorem dX11_rounds_14 : decode cX11_rounds 14 = .ok (.invokevirtual 88, 3) := by decide +kernel
theorem dX11_rounds_17 : decode cX11_rounds 17 = .ok (.ireturn, 1) := by decide +kernel
theorem dX11_rounds_18 : decode cX11_rounds 18 = .ok (.aload_n 0, 1) := by decide +kernel
theorem dX11_rounds_19 : decode cX11_rounds 19 = .ok (.getfield 19, 3) := by decide +kernel
theorem dX11_rounds_22 : decode cX11_rounds 22 = .ok (.aload_n 0, 1) := by decide +kernel
theorem dX11_rounds_23 : decode cX11_rounds 23 = .ok (.getfield 10, 3) := by decide +kernel
theorem dX11_rounds_26 : decode cX11_rounds 26 = .ok (.invokevirtual 105, 3) := by decide +kernel
theorem dX11_rounds_29 : decode cX11_rounds 29 = .ok (.iconst 0, 1) := by decide +kernel
theorem dX11_rounds_30 : decode cX11_rounds 30 = .ok (.istore_n 2, 1) := by decide +kernel
theorem dX11_rounds_31 : decode cX11_rounds 31 = .ok (.iload_n 2, 1) := by decide +kernel
theorem dX11_rounds_32 : decode cX11_rounds 32 = .ok (.iload_n 1, 1) := by decide +kernel
theorem dX11_rounds_33 : decode cX11_rounds 33 = .ok (.if_icmp .ge 27, 3) := by decide +kernel
theorem dX11_rounds_36 : decode cX11_rounds 36 = .ok (.aload_n 0, 1) := by decide +kernel
theorem dX11_rounds_37 : decode cX11_rounds 37 = .ok (.getfield 57, 3) := by decide +kernel
theorem dX11_rounds_40 : decode cX11_rounds 40 = .ok (.aload_n 0, 1) := by decide +kernel
theorem dX11_rounds_41 : decode cX11_rounds 41 = .ok (.getfield 81, 3) := by decide +kernel
theorem dX11_rounds_44 : decode cX11_rounds 44 = .ok (.aload_n 0, 1) := by decide +kernel
theorem dX11_rounds_45 : decode cX11_rounds 45 = .ok (.getfield 85, 3) := by decide +kernel
theorem dX11_rounds_48 : decode cX11_rounds 48 = .ok (.invokevirtual 206, 3) := by decide +kernel
theorem dX11_rounds_51 : decode cX11_rounds 51 = .ok (.ifCond .le 9, 3) := by decide +kernel
theorem dX11_rounds_54 : decode cX11_rounds 54 = .ok (.iinc 2 1, 3) := by decide +kernel
theorem dX11_rounds_57 : decode cX11_rounds 57 = .ok (.goto (-26), 3) := by decide +kernel
theorem dX11_rounds_60 : decode cX11_rounds 60 = .ok (.iload_n 2, 1) := by decide +kernel
theorem dX11_rounds_61 : decode cX11_rounds 61 = .ok (.ireturn, 1) := by decide +kernel
theorem dX11_last_0 : decode cX11_last 0 = .ok (.iload_n 1, 1) := by decide +kernel
theorem dX11_last_1 : decode cX11_last 1 = .ok (.ifCond .lt 8, 3) := by decide +kernel
theorem dX11_last_4 : decode cX11_last 4 = .ok (.iload_n 1, 1) := by decide +kernel
theorem dX11_last_5 : decode cX11_last 5 = .ok (.iconst 5, 1) := by decide +kernel
theorem dX11_last_6 : decode cX11_last 6 = .ok (.if_icmp .lt 10, 3) := by decide +kernel
theorem dX11_last_9 : decode cX11_last 9 = .ok (.aload_n 0, 1) := by decide +kernel
theorem dX11_last_10 : decode cX11_last 10 = .ok (.bipush (-2), 2) := by decide +kernel
theorem dX11_last_12 : decode cX11_last 12 = .ok (.invokevirtual 88, 3) := by decide +kernel
theorem dX11_last_15 : decode cX11_last 15 = .ok (.ireturn, 1) := by decide +kernel
theorem dX11_last_16 : decode cX11_last 16 = .ok (.aload_n 0, 1) := by decide +kernel
theorem dX11_last_17 : decode cX11_last 17 = .ok (.getfield 57, 3) := by decide +kernel
theorem dX11_last_20 : decode cX11_last 20 = .ok (.getfield 209, 3) := by decide +kernel
theorem dX11_last_23 : decode cX11_last 23 = .ok (.iload_n 1, 1) := by decide +kernel
theorem dX11_last_24 : decode cX11_last 24 = .ok (.iaload, 1) := by decide +kernel
theorem dX11_last_25 : decode cX11_last 25 = .ok (.ireturn, 1) := by decide +kernel
theorem dX11_still_0 : decode cX11_still 0 = .ok (.aload_n 0, 1) := by decide +kernel
theorem dX11_still_1 : decode cX11_still 1 = .ok (.getfield 57, 3) := by decide +kernel
theorem dX11_still_4 : decode cX11_still 4 = .ok (.aload_n 0, 1) := by decide +kernel
theorem dX11_still_5 : decode cX11_still 5 = .ok (.getfield 85, 3) := by decide +kernel
theorem dX11_still_8 : decode cX11_still 8 = .ok (.invokevirtual 212, 3) := by decide +kernel
theorem dX11_still_11 : decode cX11_still 11 = .ok (.ifCond .eq 7, 3) := by decide +kernel
theorem dX11_still_14 : decode cX11_still 14 = .ok (.iconst 0, 1) := by decide +kernel
theorem dX11_still_15 : decode cX11_still 15 = .ok (.goto 4, 3) := by decide +kernel
theorem dX11_still_18 : decode cX11_still 18 = .ok (.iconst 1, 1) := by decide +kernel
theorem dX11_still_19 : decode cX11_still 19 = .ok (.ireturn, 1) := by decide +kernel
theorem dX11_type_0 : decode cX11_type 0 = .ok (.iload_n 1, 1) := by decide +kernel
theorem dX11_type_1 : decode cX11_type 1 = .ok (.ifCond .lt 9, 3) := by decide +kernel
theorem dX11_type_4 : decode cX11_type 4 = .ok (.iload_n 1, 1) := by decide +kernel
theorem dX11_type_5 : decode cX11_type 5 = .ok (.bipush 127, 2) := by decide +kernel
theorem dX11_type_7 : decode cX11_type 7 = .ok (.if_icmp .le 10, 3) := by decide +kernel
theorem dX11_type_10 : decode cX11_type 10 = .ok (.aload_n 0, 1) := by decide +kernel
theorem dX11_type_11 : decode cX11_type 11 = .ok (.bipush (-2), 2) := by decide +kernel
theorem dX11_type_13 : decode cX11_type 13 = .ok (.invokevirtual 88, 3) := by decide +kernel
theorem dX11_type_16 : decode cX11_type 16 = .ok (.ireturn, 1) := by decide +kernel
theorem dX11_type_17 : decode cX11_type 17 = .ok (.aload_n 0, 1) := by decide +kernel
theorem dX11_type_18 : decode cX11_type 18 = .ok (.getfield 66, 3) := by decide +kernel
theorem dX11_type_21 : decode cX11_type 21 = .ok (.getfield 215, 3) := by decide +kernel
theorem dX11_type_24 : decode cX11_type 24 = .ok (.bipush 120, 2) := by decide +kernel
theorem dX11_type_26 : decode cX11_type 26 = .ok (.if_icmp .lt 10, 3) := by decide +kernel
theorem dX11_type_29 : decode cX11_type 29 = .ok (.aload_n 0, 1) := by decide +kernel
theorem dX11_type_30 : decode cX11_type 30 = .ok (.bipush (-4), 2) := by decide +kernel
theorem dX11_type_32 : decode cX11_type 32 = .ok (.invokevirtual 88, 3) := by decide +kernel
theorem dX11_type_35 : decode cX11_type 35 = .ok (.ireturn, 1) := by decide +kernel
theorem dX11_type_36 : decode cX11_type 36 = .ok (.aload_n 0, 1) := by decide +kernel
theorem dX11_type_37 : decode cX11_type 37 = .ok (.getfield 66, 3) := by decide +kernel
theorem dX11_type_40 : decode cX11_type 40 = .ok (.getfield 218, 3) := by decide +kernel
theorem dX11_type_43 : decode cX11_type 43 = .ok (.aload_n 0, 1) := by decide +kernel
theorem dX11_type_44 : decode cX11_type 44 = .ok (.getfield 66, 3) := by decide +kernel
theorem dX11_type_47 : decode cX11_type 47 = .ok (.getfield 215, 3) := by decide +kernel
theorem dX11_type_50 : decode cX11_type 50 = .ok (.iload_n 1, 1) := by decide +kernel
theorem dX11_type_51 : decode cX11_type 51 = .ok (.iastore, 1) := by decide +kernel
theorem dX11_type_52 : decode cX11_type 52 = .ok (.aload_n 0, 1) := by decide +kernel
theorem dX11_type_53 : decode cX11_type 53 = .ok (.getfield 66, 3) := by decide +kernel
theorem dX11_type_56 : decode cX11_type 56 = .ok (.dup, 1) := by decide +kernel
theorem dX11_type_57 : decode cX11_type 57 = .ok (.getfield 215, 3) := by decide +kernel
theorem dX11_type_60 : decode cX11_type 60 = .ok (.iconst 1, 1) := by decide +kernel
theorem dX11_type_61 : decode cX11_type 61 = .ok (.iadd, 1) := by decide +kernel
theorem dX11_type_62 : decode cX11_type 62 = .ok (.putfield 215, 3) := by decide +kernel
theorem dX11_type_65 : decode cX11_type 65 = .ok (.aload_n 0, 1) := by decide +kernel
theorem dX11_type_66 : decode cX11_type 66 = .ok (.getfield 66, 3) := by decide +kernel
theorem dX11_type_69 : decode cX11_type 69 = .ok (.getfield 215, 3) := by decide +kernel
theorem dX11_type_72 : decode cX11_type 72 = .ok (.ireturn, 1) := by decide +kernel
theorem dX11_clear_0 : decode cX11_clear 0 = .ok (.aload_n 0, 1) := by decide +kernel
theorem dX11_clear_1 : decode cX11_clear 1 = .ok (.getfield 66, 3) := by decide +kernel
theorem dX11_clear_4 : decode cX11_clear 4 = .ok (.getfield 215, 3) := by decide +kernel
theorem dX11_clear_7 : decode cX11_clear 7 = .ok (.istore_n 1, 1) := by decide +kernel
theorem dX11_clear_8 : decode cX11_clear 8 = .ok (.aload_n 0, 1) := by decide +kernel
theorem dX11_clear_9 : decode cX11_clear 9 = .ok (.getfield 66, 3) := by decide +kernel
theorem dX11_clear_12 : decode cX11_clear 12 = .ok (.iconst 0, 1) := by decide +kernel
theorem dX11_clear_13 : decode cX11_clear 13 = .ok (.putfield 215, 3) := by decide +kernel
theorem dX11_clear_16 : decode cX11_clear 16 = .ok (.iload_n 1, 1) := by decide +kernel
theorem dX11_clear_17 : decode cX11_clear 17 = .ok (.ireturn, 1) := by decide +kernel
theorem dX11_reads_0 : decode cX11_reads 0 = .ok (.aload_n 0, 1) := by decide +kernel
theorem dX11_reads_1 : decode cX11_reads 1 = .ok (.getfield 19, 3) := by decide +kernel
theorem dX11_reads_4 : decode cX11_reads 4 = .ok (.aload_n 0, 1) := by decide +kernel
theorem dX11_reads_5 : decode cX11_reads 5 = .ok (.getfield 10, 3) := by decide +kernel
theorem dX11_reads_8 : decode cX11_reads 8 = .ok (.invokevirtual 221, 3) := by decide +kernel
theorem dX11_reads_11 : decode cX11_reads 11 = .ok (.aload_n 0, 1) := by decide +kernel
theorem dX11_reads_12 : decode cX11_reads 12 = .ok (.getfield 66, 3) := by decide +kernel
theorem dX11_reads_15 : decode cX11_reads 15 = .ok (.invokevirtual 224, 3) := by decide +kernel
theorem dX11_reads_18 : decode cX11_reads 18 = .ok (.istore_n 1, 1) := by decide +kernel
theorem dX11_reads_19 : decode cX11_reads 19 = .ok (.iload_n 1, 1) := by decide +kernel
theorem dX11_reads_20 : decode cX11_reads 20 = .ok (.ifCond .le 13, 3) := by decide +kernel
theorem dX11_reads_23 : decode cX11_reads 23 = .ok (.aload_n 0, 1) := by decide +kernel
theorem dX11_reads_24 : decode cX11_reads 24 = .ok (.getfield 19, 3) := by decide +kernel
theorem dX11_reads_27 : decode cX11_reads 27 = .ok (.invokevirtual 227, 3) := by decide +kernel
theorem dX11_reads_30 : decode cX11_reads 30 = .ok (.goto 14, 3) := by decide +kernel
theorem dX11_reads_33 : decode cX11_reads 33 = .ok (.aload_n 0, 1) := by decide +kernel
theorem dX11_reads_34 : decode cX11_reads 34 = .ok (.getfield 19, 3) := by decide +kernel
theorem dX11_reads_37 : decode cX11_reads 37 = .ok (.aload_n 0, 1) := by decide +kernel
theorem dX11_reads_38 : decode cX11_reads 38 = .ok (.getfield 10, 3) := by decide +kernel
theorem dX11_reads_41 : decode cX11_reads 41 = .ok (.invokevirtual 230, 3) := by decide +kernel
theorem dX11_reads_44 : decode cX11_reads 44 = .ok (.aload_n 0, 1) := by decide +kernel
theorem dX11_reads_45 : decode cX11_reads 45 = .ok (.invokevirtual 116, 3) := by decide +kernel
theorem dX11_reads_48 : decode cX11_reads 48 = .ok (.iload_n 1, 1) := by decide +kernel
theorem dX11_reads_49 : decode cX11_reads 49 = .ok (.ireturn, 1) := by decide +kernel
theorem dX11_writing_0 : decode cX11_writing 0 = .ok (.aload_n 0, 1) := by decide +kernel
theorem dX11_writing_1 : decode cX11_writing 1 = .ok (.getfield 10, 3) := by decide +kernel
theorem dX11_writing_4 : decode cX11_writing 4 = .ok (.getfield 32, 3) := by decide +kernel
theorem dX11_writing_7 : decode cX11_writing 7 = .ok (.iload_n 1, 1) := by decide +kernel
theorem dX11_writing_8 : decode cX11_writing 8 = .ok (.invokevirtual 92, 3) := by decide +kernel
theorem dX11_writing_11 : decode cX11_writing 11 = .ok (.ifCond .eq 8, 3) := by decide +kernel
theorem dX11_writing_14 : decode cX11_writing 14 = .ok (.iload_n 2, 1) := by decide +kernel
theorem dX11_writing_15 : decode cX11_writing 15 = .ok (.iconst (-1), 1) := by decide +kernel
theorem dX11_writing_16 : decode cX11_writing 16 = .ok (.if_icmp .ge 13, 3) := by decide +kernel
theorem dX11_writing_19 : decode cX11_writing 19 = .ok (.aload_n 0, 1) := by decide +kernel
theorem dX11_writing_20 : decode cX11_writing 20 = .ok (.bipush (-2), 2) := by decide +kernel
theorem dX11_writing_22 : decode cX11_writing 22 = .ok (.invokevirtual 88, 3) := by decide +kernel
theorem dX11_writing_25 : decode cX11_writing 25 = .ok (.pop, 1) := by decide +kernel
theorem dX11_writing_26 : decode cX11_writing 26 = .ok (.bipush (-10), 2) := by decide +kernel
theorem dX11_writing_28 : decode cX11_writing 28 = .ok (.ireturn, 1) := by decide +kernel
theorem dX11_writing_29 : decode cX11_writing 29 = .ok (.aload_n 0, 1) := by decide +kernel
theorem dX11_writing_30 : decode cX11_writing 30 = .ok (.getfield 73, 3) := by decide +kernel
theorem dX11_writing_33 : decode cX11_writing 33 = .ok (.aload_n 0, 1) := by decide +kernel
theorem dX11_writing_34 : decode cX11_writing 34 = .ok (.getfield 10, 3) := by decide +kernel
theorem dX11_writing_37 : decode cX11_writing 37 = .ok (.getfield 32, 3) := by decide +kernel
theorem dX11_writing_40 : decode cX11_writing 40 = .ok (.iload_n 1, 1) := by decide +kernel
theorem dX11_writing_41 : decode cX11_writing 41 = .ok (.invokevirtual 233, 3) := by decide +kernel
theorem dX11_writing_44 : decode cX11_writing 44 = .ok (.istore_n 3, 1) := by decide +kernel
theorem dX11_writing_45 : decode cX11_writing 45 = .ok (.iload_n 2, 1) := by decide +kernel
theorem dX11_writing_46 : decode cX11_writing 46 = .ok (.iconst (-1), 1) := by decide +kernel
theorem dX11_writing_47 : decode cX11_writing 47 = .ok (.if_icmp .ne 5, 3) := by decide +kernel
theorem dX11_writing_50 : decode cX11_writing 50 = .ok (.iload_n 3, 1) := by decide +kernel
theorem dX11_writing_51 : decode cX11_writing 51 = .ok (.ireturn, 1) := by decide +kernel
theorem dX11_writing_52 : decode cX11_writing 52 = .ok (.iload_n 2, 1) := by decide +kernel
theorem dX11_writing_53 : decode cX11_writing 53 = .ok (.iload_n 3, 1) := by decide +kernel
theorem dX11_writing_54 : decode cX11_writing 54 = .ok (.if_icmp .ge 15, 3) := by decide +kernel
theorem dX11_writing_57 : decode cX11_writing 57 = .ok (.aload_n 0, 1) := by decide +kernel
theorem dX11_writing_58 : decode cX11_writing 58 = .ok (.getfield 73, 3) := by decide +kernel
theorem dX11_writing_61 : decode cX11_writing 61 = .ok (.getfield 236, 3) := by decide +kernel
theorem dX11_writing_64 : decode cX11_writing 64 = .ok (.iload_n 2, 1) := by decide +kernel
theorem dX11_writing_65 : decode cX11_writing 65 = .ok (.iaload, 1) := by decide +kernel
theorem dX11_writing_66 : decode cX11_writing 66 = .ok (.goto 5, 3) := by decide +kernel
theorem dX11_writing_69 : decode cX11_writing 69 = .ok (.bipush (-5), 2) := by decide +kernel
theorem dX11_writing_71 : decode cX11_writing 71 = .ok (.ireturn, 1) := by decide +kernel
theorem dX11_back_0 : decode cX11_back 0 = .ok (.aload_n 0, 1) := by decide +kernel
theorem dX11_back_1 : decode cX11_back 1 = .ok (.getfield 19, 3) := by decide +kernel
theorem dX11_back_4 : decode cX11_back 4 = .ok (.getfield 239, 3) := by decide +kernel
theorem dX11_back_7 : decode cX11_back 7 = .ok (.ifCond .ne 10, 3) := by decide +kernel
theorem dX11_back_10 : decode cX11_back 10 = .ok (.aload_n 0, 1) := by decide +kernel
theorem dX11_back_11 : decode cX11_back 11 = .ok (.bipush (-3), 2) := by decide +kernel
theorem dX11_back_13 : decode cX11_back 13 = .ok (.invokevirtual 88, 3) := by decide +kernel
theorem dX11_back_16 : decode cX11_back 16 = .ok (.ireturn, 1) := by decide +kernel
theorem dX11_back_17 : decode cX11_back 17 = .ok (.aload_n 0, 1) := by decide +kernel
theorem dX11_back_18 : decode cX11_back 18 = .ok (.getfield 19, 3) := by decide +kernel
theorem dX11_back_21 : decode cX11_back 21 = .ok (.aload_n 0, 1) := by decide +kernel
theorem dX11_back_22 : decode cX11_back 22 = .ok (.getfield 10, 3) := by decide +kernel
theorem dX11_back_25 : decode cX11_back 25 = .ok (.invokevirtual 240, 3) := by decide +kernel
theorem dX11_back_28 : decode cX11_back 28 = .ok (.aload_n 0, 1) := by decide +kernel
theorem dX11_back_29 : decode cX11_back 29 = .ok (.invokevirtual 116, 3) := by decide +kernel
theorem dX11_back_32 : decode cX11_back 32 = .ok (.aload_n 0, 1) := by decide +kernel
theorem dX11_back_33 : decode cX11_back 33 = .ok (.getfield 19, 3) := by decide +kernel
theorem dX11_back_36 : decode cX11_back 36 = .ok (.getfield 239, 3) := by decide +kernel
theorem dX11_back_39 : decode cX11_back 39 = .ok (.ireturn, 1) := by decide +kernel
theorem dX11_told_0 : decode cX11_told 0 = .ok (.iload_n 1, 1) := by decide +kernel
theorem dX11_told_1 : decode cX11_told 1 = .ok (.tableswitch 103 0 8 #[51, 51, 51, 58, 66, 77, 85, 90, 95], 51) := by decide +kernel
theorem dX11_told_52 : decode cX11_told 52 = .ok (.aload_n 0, 1) := by decide +kernel
theorem dX11_told_53 : decode cX11_told 53 = .ok (.getfield 77, 3) := by decide +kernel
theorem dX11_told_56 : decode cX11_told 56 = .ok (.iload_n 1, 1) := by decide +kernel
theorem dX11_told_57 : decode cX11_told 57 = .ok (.iaload, 1) := by decide +kernel
theorem dX11_told_58 : decode cX11_told 58 = .ok (.ireturn, 1) := by decide +kernel
theorem dX11_told_59 : decode cX11_told 59 = .ok (.aload_n 0, 1) := by decide +kernel
theorem dX11_told_60 : decode cX11_told 60 = .ok (.getfield 66, 3) := by decide +kernel
theorem dX11_told_63 : decode cX11_told 63 = .ok (.getfield 215, 3) := by decide +kernel
theorem dX11_told_66 : decode cX11_told 66 = .ok (.ireturn, 1) := by decide +kernel
theorem dX11_told_67 : decode cX11_told 67 = .ok (.aload_n 0, 1) := by decide +kernel
theorem dX11_told_68 : decode cX11_told 68 = .ok (.getfield 10, 3) := by decide +kernel
theorem dX11_told_71 : decode cX11_told 71 = .ok (.getfield 32, 3) := by decide +kernel
theorem dX11_told_74 : decode cX11_told 74 = .ok (.getfield 102, 3) := by decide +kernel
theorem dX11_told_77 : decode cX11_told 77 = .ok (.ireturn, 1) := by decide +kernel
theorem dX11_told_78 : decode cX11_told 78 = .ok (.aload_n 0, 1) := by decide +kernel
theorem dX11_told_79 : decode cX11_told 79 = .ok (.getfield 10, 3) := by decide +kernel
theorem dX11_told_82 : decode cX11_told 82 = .ok (.getfield 203, 3) := by decide +kernel
theorem dX11_told_85 : decode cX11_told 85 = .ok (.ireturn, 1) := by decide +kernel
theorem dX11_told_86 : decode cX11_told 86 = .ok (.aload_n 0, 1) := by decide +kernel
theorem dX11_told_87 : decode cX11_told 87 = .ok (.getfield 81, 3) := by decide +kernel
theorem dX11_told_90 : decode cX11_told 90 = .ok (.ireturn, 1) := by decide +kernel
theorem dX11_told_91 : decode cX11_told 91 = .ok (.aload_n 0, 1) := by decide +kernel
theorem dX11_told_92 : decode cX11_told 92 = .ok (.getfield 85, 3) := by decide +kernel
theorem dX11_told_95 : decode cX11_told 95 = .ok (.ireturn, 1) := by decide +kernel
theorem dX11_told_96 : decode cX11_told 96 = .ok (.aload_n 0, 1) := by decide +kernel
theorem dX11_told_97 : decode cX11_told 97 = .ok (.getfield 19, 3) := by decide +kernel
theorem dX11_told_100 : decode cX11_told 100 = .ok (.getfield 239, 3) := by decide +kernel
theorem dX11_told_103 : decode cX11_told 103 = .ok (.ireturn, 1) := by decide +kernel
theorem dX11_told_104 : decode cX11_told 104 = .ok (.aload_n 0, 1) := by decide +kernel
theorem dX11_told_105 : decode cX11_told 105 = .ok (.bipush (-2), 2) := by decide +kernel
theorem dX11_told_107 : decode cX11_told 107 = .ok (.invokevirtual 88, 3) := by decide +kernel
theorem dX11_told_110 : decode cX11_told 110 = .ok (.ireturn, 1) := by decide +kernel
theorem dX11_digest_0 : decode cX11_digest 0 = .ok (.ldc2_w 243, 3) := by decide +kernel
theorem dX11_digest_3 : decode cX11_digest 3 = .ok (.lstore_n 1, 1) := by decide +kernel
theorem dX11_digest_4 : decode cX11_digest 4 = .ok (.iconst 0, 1) := by decide +kernel
theorem dX11_digest_5 : decode cX11_digest 5 = .ok (.istore_n 3, 1) := by decide +kernel
theorem dX11_digest_6 : decode cX11_digest 6 = .ok (.iload_n 3, 1) := by decide +kernel
theorem dX11_digest_7 : decode cX11_digest 7 = .ok (.bipush 8, 2) := by decide +kernel
theorem dX11_digest_9 : decode cX11_digest 9 = .ok (.if_icmp .gt 22, 3) := by decide +kernel
theorem dX11_digest_12 : decode cX11_digest 12 = .ok (.ldc2_w 245, 3) := by decide +kernel
theorem dX11_digest_15 : decode cX11_digest 15 = .ok (.lload_n 1, 1) := by decide +kernel
theorem dX11_digest_16 : decode cX11_digest 16 = .ok (.lmul, 1) := by decide +kernel
theorem dX11_digest_17 : decode cX11_digest 17 = .ok (.aload_n 0, 1) := by decide +kernel
theorem dX11_digest_18 : decode cX11_digest 18 = .ok (.iload_n 3, 1) := by decide +kernel
theorem dX11_digest_19 : decode cX11_digest 19 = .ok (.invokevirtual 247, 3) := by decide +kernel
theorem dX11_digest_22 : decode cX11_digest 22 = .ok (.i2l, 1) := by decide +kernel
theorem dX11_digest_23 : decode cX11_digest 23 = .ok (.ladd, 1) := by decide +kernel
theorem dX11_digest_24 : decode cX11_digest 24 = .ok (.lstore_n 1, 1) := by decide +kernel
theorem dX11_digest_25 : decode cX11_digest 25 = .ok (.iinc 3 1, 3) := by decide +kernel
theorem dX11_digest_28 : decode cX11_digest 28 = .ok (.goto (-22), 3) := by decide +kernel
theorem dX11_digest_31 : decode cX11_digest 31 = .ok (.iconst 0, 1) := by decide +kernel
theorem dX11_digest_32 : decode cX11_digest 32 = .ok (.istore_n 3, 1) := by decide +kernel
theorem dX11_digest_33 : decode cX11_digest 33 = .ok (.iload_n 3, 1) := by decide +kernel
theorem dX11_digest_34 : decode cX11_digest 34 = .ok (.aload_n 0, 1) := by decide +kernel
theorem dX11_digest_35 : decode cX11_digest 35 = .ok (.getfield 10, 3) := by decide +kernel
theorem dX11_digest_38 : decode cX11_digest 38 = .ok (.getfield 32, 3) := by decide +kernel
theorem dX11_digest_41 : decode cX11_digest 41 = .ok (.getfield 102, 3) := by decide +kernel
theorem dX11_digest_44 : decode cX11_digest 44 = .ok (.if_icmp .ge 39, 3) := by decide +kernel
theorem dX11_digest_47 : decode cX11_digest 47 = .ok (.iconst 0, 1) := by decide +kernel
theorem dX11_digest_48 : decode cX11_digest 48 = .ok (.istore 4, 2) := by decide +kernel
theorem dX11_digest_50 : decode cX11_digest 50 = .ok (.iload 4, 2) := by decide +kernel
theorem dX11_digest_52 : decode cX11_digest 52 = .ok (.iconst 4, 1) := by decide +kernel
theorem dX11_digest_53 : decode cX11_digest 53 = .ok (.if_icmp .gt 24, 3) := by decide +kernel
theorem dX11_digest_56 : decode cX11_digest 56 = .ok (.ldc2_w 245, 3) := by decide +kernel
theorem dX11_digest_59 : decode cX11_digest 59 = .ok (.lload_n 1, 1) := by decide +kernel
theorem dX11_digest_60 : decode cX11_digest 60 = .ok (.lmul, 1) := by decide +kernel
theorem dX11_digest_61 : decode cX11_digest 61 = .ok (.aload_n 0, 1) := by decide +kernel
theorem dX11_digest_62 : decode cX11_digest 62 = .ok (.iload_n 3, 1) := by decide +kernel
theorem dX11_digest_63 : decode cX11_digest 63 = .ok (.iload 4, 2) := by decide +kernel
theorem dX11_digest_65 : decode cX11_digest 65 = .ok (.invokevirtual 250, 3) := by decide +kernel
theorem dX11_digest_68 : decode cX11_digest 68 = .ok (.i2l, 1) := by decide +kernel
theorem dX11_digest_69 : decode cX11_digest 69 = .ok (.ladd, 1) := by decide +kernel
theorem dX11_digest_70 : decode cX11_digest 70 = .ok (.lstore_n 1, 1) := by decide +kernel
theorem dX11_digest_71 : decode cX11_digest 71 = .ok (.iinc 4 1, 3) := by decide +kernel
theorem dX11_digest_74 : decode cX11_digest 74 = .ok (.goto (-24), 3) := by decide +kernel
theorem dX11_digest_77 : decode cX11_digest 77 = .ok (.iinc 3 1, 3) := by decide +kernel
theorem dX11_digest_80 : decode cX11_digest 80 = .ok (.goto (-47), 3) := by decide +kernel
theorem dX11_digest_83 : decode cX11_digest 83 = .ok (.ldc2_w 245, 3) := by decide +kernel
theorem dX11_digest_86 : decode cX11_digest 86 = .ok (.lload_n 1, 1) := by decide +kernel
theorem dX11_digest_87 : decode cX11_digest 87 = .ok (.lmul, 1) := by decide +kernel
theorem dX11_digest_88 : decode cX11_digest 88 = .ok (.aload_n 0, 1) := by decide +kernel
theorem dX11_digest_89 : decode cX11_digest 89 = .ok (.invokevirtual 119, 3) := by decide +kernel
theorem dX11_digest_92 : decode cX11_digest 92 = .ok (.i2l, 1) := by decide +kernel
theorem dX11_digest_93 : decode cX11_digest 93 = .ok (.ladd, 1) := by decide +kernel
theorem dX11_digest_94 : decode cX11_digest 94 = .ok (.lstore_n 1, 1) := by decide +kernel
theorem dX11_digest_95 : decode cX11_digest 95 = .ok (.iconst 0, 1) := by decide +kernel
theorem dX11_digest_96 : decode cX11_digest 96 = .ok (.istore_n 3, 1) := by decide +kernel
theorem dX11_digest_97 : decode cX11_digest 97 = .ok (.iload_n 3, 1) := by decide +kernel
theorem dX11_digest_98 : decode cX11_digest 98 = .ok (.aload_n 0, 1) := by decide +kernel
theorem dX11_digest_99 : decode cX11_digest 99 = .ok (.getfield 10, 3) := by decide +kernel
theorem dX11_digest_102 : decode cX11_digest 102 = .ok (.getfield 203, 3) := by decide +kernel
theorem dX11_digest_105 : decode cX11_digest 105 = .ok (.if_icmp .ge 39, 3) := by decide +kernel
theorem dX11_digest_108 : decode cX11_digest 108 = .ok (.iconst 0, 1) := by decide +kernel
theorem dX11_digest_109 : decode cX11_digest 109 = .ok (.istore 4, 2) := by decide +kernel
theorem dX11_digest_111 : decode cX11_digest 111 = .ok (.iload 4, 2) := by decide +kernel
theorem dX11_digest_113 : decode cX11_digest 113 = .ok (.iconst 3, 1) := by decide +kernel
theorem dX11_digest_114 : decode cX11_digest 114 = .ok (.if_icmp .gt 24, 3) := by decide +kernel
theorem dX11_digest_117 : decode cX11_digest 117 = .ok (.ldc2_w 245, 3) := by decide +kernel
theorem dX11_digest_120 : decode cX11_digest 120 = .ok (.lload_n 1, 1) := by decide +kernel
theorem dX11_digest_121 : decode cX11_digest 121 = .ok (.lmul, 1) := by decide +kernel
theorem dX11_digest_122 : decode cX11_digest 122 = .ok (.aload_n 0, 1) := by decide +kernel
theorem dX11_digest_123 : decode cX11_digest 123 = .ok (.iload_n 3, 1) := by decide +kernel
theorem dX11_digest_124 : decode cX11_digest 124 = .ok (.iload 4, 2) := by decide +kernel
theorem dX11_digest_126 : decode cX11_digest 126 = .ok (.invokevirtual 253, 3) := by decide +kernel
theorem dX11_digest_129 : decode cX11_digest 129 = .ok (.i2l, 1) := by decide +kernel
theorem dX11_digest_130 : decode cX11_digest 130 = .ok (.ladd, 1) := by decide +kernel
theorem dX11_digest_131 : decode cX11_digest 131 = .ok (.lstore_n 1, 1) := by decide +kernel
theorem dX11_digest_132 : decode cX11_digest 132 = .ok (.iinc 4 1, 3) := by decide +kernel
theorem dX11_digest_135 : decode cX11_digest 135 = .ok (.goto (-24), 3) := by decide +kernel
theorem dX11_digest_138 : decode cX11_digest 138 = .ok (.iinc 3 1, 3) := by decide +kernel
theorem dX11_digest_141 : decode cX11_digest 141 = .ok (.goto (-44), 3) := by decide +kernel
theorem dX11_digest_144 : decode cX11_digest 144 = .ok (.lload_n 1, 1) := by decide +kernel
theorem dX11_digest_145 : decode cX11_digest 145 = .ok (.lreturn, 1) := by decide +kernel
theorem dX11_refuse_0 : decode cX11_refuse 0 = .ok (.bipush (-2), 2) := by decide +kernel
theorem dX11_refuse_2 : decode cX11_refuse 2 = .ok (.iload_n 1, 1) := by decide +kernel
theorem dX11_refuse_3 : decode cX11_refuse 3 = .ok (.isub, 1) := by decide +kernel
theorem dX11_refuse_4 : decode cX11_refuse 4 = .ok (.istore_n 2, 1) := by decide +kernel
theorem dX11_refuse_5 : decode cX11_refuse 5 = .ok (.iload_n 2, 1) := by decide +kernel
theorem dX11_refuse_6 : decode cX11_refuse 6 = .ok (.ifCond .lt 22, 3) := by decide +kernel
theorem dX11_refuse_9 : decode cX11_refuse 9 = .ok (.iload_n 2, 1) := by decide +kernel
theorem dX11_refuse_10 : decode cX11_refuse 10 = .ok (.aload_n 0, 1) := by decide +kernel
theorem dX11_refuse_11 : decode cX11_refuse 11 = .ok (.getfield 77, 3) := by decide +kernel
theorem dX11_refuse_14 : decode cX11_refuse 14 = .ok (.arraylength, 1) := by decide +kernel
theorem dX11_refuse_15 : decode cX11_refuse 15 = .ok (.if_icmp .ge 13, 3) := by decide +kernel
theorem dX11_refuse_18 : decode cX11_refuse 18 = .ok (.aload_n 0, 1) := by decide +kernel
theorem dX11_refuse_19 : decode cX11_refuse 19 = .ok (.getfield 77, 3) := by decide +kernel
theorem dX11_refuse_22 : decode cX11_refuse 22 = .ok (.iload_n 2, 1) := by decide +kernel
theorem dX11_refuse_23 : decode cX11_refuse 23 = .ok (.dup2, 1) := by decide +kernel
theorem dX11_refuse_24 : decode cX11_refuse 24 = .ok (.iaload, 1) := by decide +kernel
theorem dX11_refuse_25 : decode cX11_refuse 25 = .ok (.iconst 1, 1) := by decide +kernel
theorem dX11_refuse_26 : decode cX11_refuse 26 = .ok (.iadd, 1) := by decide +kernel
theorem dX11_refuse_27 : decode cX11_refuse 27 = .ok (.iastore, 1) := by decide +kernel
theorem dX11_refuse_28 : decode cX11_refuse 28 = .ok (.iload_n 1, 1) := by decide +kernel
theorem dX11_refuse_29 : decode cX11_refuse 29 = .ok (.ireturn, 1) := by decide +kernel
theorem dX11_settleAll_0 : decode cX11_settleAll 0 = .ok (.aload_n 0, 1) := by decide +kernel
theorem dX11_settleAll_1 : decode cX11_settleAll 1 = .ok (.getfield 26, 3) := by decide +kernel
theorem dX11_settleAll_4 : decode cX11_settleAll 4 = .ok (.aload_n 0, 1) := by decide +kernel
theorem dX11_settleAll_5 : decode cX11_settleAll 5 = .ok (.getfield 10, 3) := by decide +kernel
theorem dX11_settleAll_8 : decode cX11_settleAll 8 = .ok (.getfield 32, 3) := by decide +kernel
theorem dX11_settleAll_11 : decode cX11_settleAll 11 = .ok (.invokevirtual 256, 3) := by decide +kernel
theorem dX11_settleAll_14 : decode cX11_settleAll 14 = .ok (.aload_n 0, 1) := by decide +kernel
theorem dX11_settleAll_15 : decode cX11_settleAll 15 = .ok (.getfield 48, 3) := by decide +kernel
theorem dX11_settleAll_18 : decode cX11_settleAll 18 = .ok (.invokevirtual 200, 3) := by decide +kernel
theorem dX11_settleAll_21 : decode cX11_settleAll 21 = .ok (.return_, 1) := by decide +kernel
theorem dX12_init_0 : decode cX12_init 0 = .ok (.aload_n 0, 1) := by decide +kernel
theorem dX12_init_1 : decode cX12_init 1 = .ok (.invokespecial 1, 3) := by decide +kernel
theorem dX12_init_4 : decode cX12_init 4 = .ok (.aload_n 0, 1) := by decide +kernel
theorem dX12_init_5 : decode cX12_init 5 = .ok (.sipush 984, 3) := by decide +kernel
theorem dX12_init_8 : decode cX12_init 8 = .ok (.newarray .int, 2) := by decide +kernel
theorem dX12_init_10 : decode cX12_init 10 = .ok (.putfield 7, 3) := by decide +kernel
theorem dX12_init_13 : decode cX12_init 13 = .ok (.aload_n 0, 1) := by decide +kernel
theorem dX12_init_14 : decode cX12_init 14 = .ok (.sipush 7872, 3) := by decide +kernel
theorem dX12_init_17 : decode cX12_init 17 = .ok (.newarray .int, 2) := by decide +kernel
theorem dX12_init_19 : decode cX12_init 19 = .ok (.putfield 13, 3) := by decide +kernel
theorem dX12_init_22 : decode cX12_init 22 = .ok (.aload_n 0, 1) := by decide +kernel
theorem dX12_init_23 : decode cX12_init 23 = .ok (.sipush 984, 3) := by decide +kernel
theorem dX12_init_26 : decode cX12_init 26 = .ok (.newarray .int, 2) := by decide +kernel
theorem dX12_init_28 : decode cX12_init 28 = .ok (.putfield 16, 3) := by decide +kernel
theorem dX12_init_31 : decode cX12_init 31 = .ok (.aload_n 0, 1) := by decide +kernel
theorem dX12_init_32 : decode cX12_init 32 = .ok (.iconst 2, 1) := by decide +kernel
theorem dX12_init_33 : decode cX12_init 33 = .ok (.newarray .int, 2) := by decide +kernel
theorem dX12_init_35 : decode cX12_init 35 = .ok (.dup, 1) := by decide +kernel
theorem dX12_init_36 : decode cX12_init 36 = .ok (.iconst 0, 1) := by decide +kernel
theorem dX12_init_37 : decode cX12_init 37 = .ok (.iconst 0, 1) := by decide +kernel
theorem dX12_init_38 : decode cX12_init 38 = .ok (.iastore, 1) := by decide +kernel
theorem dX12_init_39 : decode cX12_init 39 = .ok (.dup, 1) := by decide +kernel
theorem dX12_init_40 : decode cX12_init 40 = .ok (.iconst 1, 1) := by decide +kernel
theorem dX12_init_41 : decode cX12_init 41 = .ok (.iconst 3, 1) := by decide +kernel
theorem dX12_init_42 : decode cX12_init 42 = .ok (.iastore, 1) := by decide +kernel
theorem dX12_init_43 : decode cX12_init 43 = .ok (.putfield 19, 3) := by decide +kernel
theorem dX12_init_46 : decode cX12_init 46 = .ok (.aload_n 0, 1) := by decide +kernel
theorem dX12_init_47 : decode cX12_init 47 = .ok (.iconst 5, 1) := by decide +kernel
theorem dX12_init_48 : decode cX12_init 48 = .ok (.newarray .int, 2) := by decide +kernel
theorem dX12_init_50 : decode cX12_init 50 = .ok (.putfield 22, 3) := by decide +kernel
theorem dX12_init_53 : decode cX12_init 53 = .ok (.aload_n 0, 1) := by decide +kernel
theorem dX12_init_54 : decode cX12_init 54 = .ok (.iconst 5, 1) := by decide +kernel
theorem dX12_init_55 : decode cX12_init 55 = .ok (.newarray .int, 2) := by decide +kernel
theorem dX12_init_57 : decode cX12_init 57 = .ok (.putfield 25, 3) := by decide +kernel
theorem dX12_init_60 : decode cX12_init 60 = .ok (.aload_n 0, 1) := by decide +kernel
theorem dX12_init_61 : decode cX12_init 61 = .ok (.iconst 3, 1) := by decide +kernel
theorem dX12_init_62 : decode cX12_init 62 = .ok (.newarray .int, 2) := by decide +kernel
theorem dX12_init_64 : decode cX12_init 64 = .ok (.putfield 28, 3) := by decide +kernel
theorem dX12_init_67 : decode cX12_init 67 = .ok (.aload_n 0, 1) := by decide +kernel
theorem dX12_init_68 : decode cX12_init 68 = .ok (.bipush 120, 2) := by decide +kernel
theorem dX12_init_70 : decode cX12_init 70 = .ok (.newarray .int, 2) := by decide +kernel
theorem dX12_init_72 : decode cX12_init 72 = .ok (.putfield 31, 3) := by decide +kernel
theorem dX12_init_75 : decode cX12_init 75 = .ok (.aload_n 0, 1) := by decide +kernel
theorem dX12_init_76 : decode cX12_init 76 = .ok (.bipush 120, 2) := by decide +kernel
theorem dX12_init_78 : decode cX12_init 78 = .ok (.newarray .int, 2) := by decide +kernel
theorem dX12_init_80 : decode cX12_init 80 = .ok (.putfield 34, 3) := by decide +kernel
theorem dX12_init_83 : decode cX12_init 83 = .ok (.aload_n 0, 1) := by decide +kernel
theorem dX12_init_84 : decode cX12_init 84 = .ok (.bipush 120, 2) := by decide +kernel
theorem dX12_init_86 : decode cX12_init 86 = .ok (.newarray .int, 2) := by decide +kernel
theorem dX12_init_88 : decode cX12_init 88 = .ok (.putfield 37, 3) := by decide +kernel
theorem dX12_init_91 : decode cX12_init 91 = .ok (.aload_n 0, 1) := by decide +kernel
theorem dX12_init_92 : decode cX12_init 92 = .ok (.bipush 120, 2) := by decide +kernel
theorem dX12_init_94 : decode cX12_init 94 = .ok (.newarray .int, 2) := by decide +kernel
theorem dX12_init_96 : decode cX12_init 96 = .ok (.putfield 40, 3) := by decide +kernel
theorem dX12_init_99 : decode cX12_init 99 = .ok (.aload_n 0, 1) := by decide +kernel
theorem dX12_init_100 : decode cX12_init 100 = .ok (.bipush 120, 2) := by decide +kernel
theorem dX12_init_102 : decode cX12_init 102 = .ok (.newarray .int, 2) := by decide +kernel
theorem dX12_init_104 : decode cX12_init 104 = .ok (.putfield 43, 3) := by decide +kernel
theorem dX12_init_107 : decode cX12_init 107 = .ok (.aload_n 0, 1) := by decide +kernel
theorem dX12_init_108 : decode cX12_init 108 = .ok (.bipush 120, 2) := by decide +kernel
theorem dX12_init_110 : decode cX12_init 110 = .ok (.newarray .int, 2) := by decide +kernel
theorem dX12_init_112 : decode cX12_init 112 = .ok (.putfield 46, 3) := by decide +kernel
theorem dX12_init_115 : decode cX12_init 115 = .ok (.aload_n 0, 1) := by decide +kernel
theorem dX12_init_116 : decode cX12_init 116 = .ok (.iconst 4, 1) := by decide +kernel
theorem dX12_init_117 : decode cX12_init 117 = .ok (.newarray .int, 2) := by decide +kernel
theorem dX12_init_119 : decode cX12_init 119 = .ok (.putfield 49, 3) := by decide +kernel
theorem dX12_init_122 : decode cX12_init 122 = .ok (.aload_n 0, 1) := by decide +kernel
end
section
theorem dX12_init_123 : decode cX12_init 123 = .ok (.bipush 100, 2) := by decide +kernel
theorem dX12_init_125 : decode cX12_init 125 = .ok (.newarray .int, 2) := by decide +kernel
theorem dX12_init_127 : decode cX12_init 127 = .ok (.putfield 52, 3) := by decide +kernel
theorem dX12_init_130 : decode cX12_init 130 = .ok (.aload_n 0, 1) := by decide +kernel
theorem dX12_init_131 : decode cX12_init 131 = .ok (.sipush 2500, 3) := by decide +kernel
theorem dX12_init_134 : decode cX12_init 134 = .ok (.newarray .int, 2) := by decide +kernel
theorem dX12_init_136 : decode cX12_init 136 = .ok (.putfield 55, 3) := by decide +kernel
theorem dX12_init_139 : decode cX12_init 139 = .ok (.aload_n 0, 1) := by decide +kernel
theorem dX12_init_140 : decode cX12_init 140 = .ok (.bipush 50, 2) := by decide +kernel
theorem dX12_init_142 : decode cX12_init 142 = .ok (.newarray .int, 2) := by decide +kernel
theorem dX12_init_144 : decode cX12_init 144 = .ok (.putfield 58, 3) := by decide +kernel
theorem dX12_init_147 : decode cX12_init 147 = .ok (.aload_n 0, 1) := by decide +kernel
theorem dX12_init_148 : decode cX12_init 148 = .ok (.sipush 6000, 3) := by decide +kernel
theorem dX12_init_151 : decode cX12_init 151 = .ok (.newarray .int, 2) := by decide +kernel
theorem dX12_init_153 : decode cX12_init 153 = .ok (.putfield 61, 3) := by decide +kernel
theorem dX12_init_156 : decode cX12_init 156 = .ok (.aload_n 0, 1) := by decide +kernel
theorem dX12_init_157 : decode cX12_init 157 = .ok (.bipush 6, 2) := by decide +kernel
theorem dX12_init_159 : decode cX12_init 159 = .ok (.newarray .int, 2) := by decide +kernel
theorem dX12_init_161 : decode cX12_init 161 = .ok (.putfield 64, 3) := by decide +kernel
theorem dX12_init_164 : decode cX12_init 164 = .ok (.aload_n 0, 1) := by decide +kernel
theorem dX12_init_165 : decode cX12_init 165 = .ok (.bipush 120, 2) := by decide +kernel
theorem dX12_init_167 : decode cX12_init 167 = .ok (.newarray .int, 2) := by decide +kernel
theorem dX12_init_169 : decode cX12_init 169 = .ok (.putfield 67, 3) := by decide +kernel
theorem dX12_init_172 : decode cX12_init 172 = .ok (.aload_n 0, 1) := by decide +kernel
theorem dX12_init_173 : decode cX12_init 173 = .ok (.iconst 3, 1) := by decide +kernel
theorem dX12_init_174 : decode cX12_init 174 = .ok (.newarray .int, 2) := by decide +kernel
theorem dX12_init_176 : decode cX12_init 176 = .ok (.putfield 70, 3) := by decide +kernel
theorem dX12_init_179 : decode cX12_init 179 = .ok (.aload_n 0, 1) := by decide +kernel
theorem dX12_init_180 : decode cX12_init 180 = .ok (.bipush 50, 2) := by decide +kernel
theorem dX12_init_182 : decode cX12_init 182 = .ok (.newarray .int, 2) := by decide +kernel
theorem dX12_init_184 : decode cX12_init 184 = .ok (.putfield 73, 3) := by decide +kernel
theorem dX12_init_187 : decode cX12_init 187 = .ok (.aload_n 0, 1) := by decide +kernel
theorem dX12_init_188 : decode cX12_init 188 = .ok (.sipush 300, 3) := by decide +kernel
theorem dX12_init_191 : decode cX12_init 191 = .ok (.newarray .int, 2) := by decide +kernel
theorem dX12_init_193 : decode cX12_init 193 = .ok (.putfield 76, 3) := by decide +kernel
theorem dX12_init_196 : decode cX12_init 196 = .ok (.return_, 1) := by decide +kernel
theorem dX12_in_0 : decode cX12_in 0 = .ok (.iload_n 0, 1) := by decide +kernel
theorem dX12_in_1 : decode cX12_in 1 = .ok (.iload_n 1, 1) := by decide +kernel
theorem dX12_in_2 : decode cX12_in 2 = .ok (.if_icmp .lt 12, 3) := by decide +kernel
theorem dX12_in_5 : decode cX12_in 5 = .ok (.iload_n 0, 1) := by decide +kernel
theorem dX12_in_6 : decode cX12_in 6 = .ok (.iload_n 2, 1) := by decide +kernel
theorem dX12_in_7 : decode cX12_in 7 = .ok (.if_icmp .gt 7, 3) := by decide +kernel
theorem dX12_in_10 : decode cX12_in 10 = .ok (.iconst 1, 1) := by decide +kernel
theorem dX12_in_11 : decode cX12_in 11 = .ok (.goto 4, 3) := by decide +kernel
theorem dX12_in_14 : decode cX12_in 14 = .ok (.iconst 0, 1) := by decide +kernel
theorem dX12_in_15 : decode cX12_in 15 = .ok (.ireturn, 1) := by decide +kernel
theorem dX12_refuses_0 : decode cX12_refuses 0 = .ok (.aload_n 0, 1) := by decide +kernel
theorem dX12_refuses_1 : decode cX12_refuses 1 = .ok (.getfield 28, 3) := by decide +kernel
theorem dX12_refuses_4 : decode cX12_refuses 4 = .ok (.bipush (-2), 2) := by decide +kernel
theorem dX12_refuses_6 : decode cX12_refuses 6 = .ok (.iload_n 1, 1) := by decide +kernel
theorem dX12_refuses_7 : decode cX12_refuses 7 = .ok (.isub, 1) := by decide +kernel
theorem dX12_refuses_8 : decode cX12_refuses 8 = .ok (.dup2, 1) := by decide +kernel
theorem dX12_refuses_9 : decode cX12_refuses 9 = .ok (.iaload, 1) := by decide +kernel
theorem dX12_refuses_10 : decode cX12_refuses 10 = .ok (.iconst 1, 1) := by decide +kernel
theorem dX12_refuses_11 : decode cX12_refuses 11 = .ok (.iadd, 1) := by decide +kernel
theorem dX12_refuses_12 : decode cX12_refuses 12 = .ok (.iastore, 1) := by decide +kernel
theorem dX12_refuses_13 : decode cX12_refuses 13 = .ok (.iload_n 1, 1) := by decide +kernel
theorem dX12_refuses_14 : decode cX12_refuses 14 = .ok (.ireturn, 1) := by decide +kernel
theorem dX12_isTerm_0 : decode cX12_isTerm 0 = .ok (.iload_n 1, 1) := by decide +kernel
theorem dX12_isTerm_1 : decode cX12_isTerm 1 = .ok (.iconst 0, 1) := by decide +kernel
theorem dX12_isTerm_2 : decode cX12_isTerm 2 = .ok (.aload_n 0, 1) := by decide +kernel
theorem dX12_isTerm_3 : decode cX12_isTerm 3 = .ok (.getfield 7, 3) := by decide +kernel
theorem dX12_isTerm_6 : decode cX12_isTerm 6 = .ok (.iconst 0, 1) := by decide +kernel
theorem dX12_isTerm_7 : decode cX12_isTerm 7 = .ok (.iaload, 1) := by decide +kernel
theorem dX12_isTerm_8 : decode cX12_isTerm 8 = .ok (.iconst 1, 1) := by decide +kernel
theorem dX12_isTerm_9 : decode cX12_isTerm 9 = .ok (.isub, 1) := by decide +kernel
theorem dX12_isTerm_10 : decode cX12_isTerm 10 = .ok (.invokestatic 79, 3) := by decide +kernel
theorem dX12_isTerm_13 : decode cX12_isTerm 13 = .ok (.ireturn, 1) := by decide +kernel
theorem dX12_isRule_0 : decode cX12_isRule 0 = .ok (.iload_n 1, 1) := by decide +kernel
theorem dX12_isRule_1 : decode cX12_isRule 1 = .ok (.iconst 0, 1) := by decide +kernel
theorem dX12_isRule_2 : decode cX12_isRule 2 = .ok (.aload_n 0, 1) := by decide +kernel
theorem dX12_isRule_3 : decode cX12_isRule 3 = .ok (.getfield 7, 3) := by decide +kernel
theorem dX12_isRule_6 : decode cX12_isRule 6 = .ok (.iconst 1, 1) := by decide +kernel
theorem dX12_isRule_7 : decode cX12_isRule 7 = .ok (.iaload, 1) := by decide +kernel
theorem dX12_isRule_8 : decode cX12_isRule 8 = .ok (.iconst 1, 1) := by decide +kernel
theorem dX12_isRule_9 : decode cX12_isRule 9 = .ok (.isub, 1) := by decide +kernel
theorem dX12_isRule_10 : decode cX12_isRule 10 = .ok (.invokestatic 79, 3) := by decide +kernel
theorem dX12_isRule_13 : decode cX12_isRule 13 = .ok (.ireturn, 1) := by decide +kernel
theorem dX12_arity_0 : decode cX12_arity 0 = .ok (.iload_n 0, 1) := by decide +kernel
theorem dX12_arity_1 : decode cX12_arity 1 = .ok (.iconst 4, 1) := by decide +kernel
theorem dX12_arity_2 : decode cX12_arity 2 = .ok (.if_icmp .lt 9, 3) := by decide +kernel
theorem dX12_arity_5 : decode cX12_arity 5 = .ok (.iload_n 0, 1) := by decide +kernel
theorem dX12_arity_6 : decode cX12_arity 6 = .ok (.bipush 6, 2) := by decide +kernel
theorem dX12_arity_8 : decode cX12_arity 8 = .ok (.if_icmp .le 7, 3) := by decide +kernel
theorem dX12_arity_11 : decode cX12_arity 11 = .ok (.iconst 0, 1) := by decide +kernel
theorem dX12_arity_12 : decode cX12_arity 12 = .ok (.goto 14, 3) := by decide +kernel
theorem dX12_arity_15 : decode cX12_arity 15 = .ok (.iload_n 0, 1) := by decide +kernel
theorem dX12_arity_16 : decode cX12_arity 16 = .ok (.bipush 6, 2) := by decide +kernel
theorem dX12_arity_18 : decode cX12_arity 18 = .ok (.if_icmp .ge 7, 3) := by decide +kernel
theorem dX12_arity_21 : decode cX12_arity 21 = .ok (.iconst 1, 1) := by decide +kernel
theorem dX12_arity_22 : decode cX12_arity 22 = .ok (.goto 4, 3) := by decide +kernel
theorem dX12_arity_25 : decode cX12_arity 25 = .ok (.iconst 2, 1) := by decide +kernel
theorem dX12_arity_26 : decode cX12_arity 26 = .ok (.ireturn, 1) := by decide +kernel
theorem dX12_classOf_0 : decode cX12_classOf 0 = .ok (.aload_n 0, 1) := by decide +kernel
theorem dX12_classOf_1 : decode cX12_classOf 1 = .ok (.getfield 7, 3) := by decide +kernel
theorem dX12_classOf_4 : decode cX12_classOf 4 = .ok (.sipush 202, 3) := by decide +kernel
theorem dX12_classOf_7 : decode cX12_classOf 7 = .ok (.iload_n 1, 1) := by decide +kernel
theorem dX12_classOf_8 : decode cX12_classOf 8 = .ok (.iadd, 1) := by decide +kernel
theorem dX12_classOf_9 : decode cX12_classOf 9 = .ok (.iaload, 1) := by decide +kernel
theorem dX12_classOf_10 : decode cX12_classOf 10 = .ok (.ireturn, 1) := by decide +kernel
theorem dX12_keeps_0 : decode cX12_keeps 0 = .ok (.aload_n 0, 1) := by decide +kernel
theorem dX12_keeps_1 : decode cX12_keeps 1 = .ok (.getfield 83, 3) := by decide +kernel
theorem dX12_keeps_4 : decode cX12_keeps 4 = .ok (.bipush 8, 2) := by decide +kernel
theorem dX12_keeps_6 : decode cX12_keeps 6 = .ok (.if_icmp .ne 44, 3) := by decide +kernel
theorem dX12_keeps_9 : decode cX12_keeps 9 = .ok (.iconst 0, 1) := by decide +kernel
theorem dX12_keeps_10 : decode cX12_keeps 10 = .ok (.istore_n 1, 1) := by decide +kernel
theorem dX12_keeps_11 : decode cX12_keeps 11 = .ok (.iload_n 1, 1) := by decide +kernel
theorem dX12_keeps_12 : decode cX12_keeps 12 = .ok (.sipush 6888, 3) := by decide +kernel
theorem dX12_keeps_15 : decode cX12_keeps 15 = .ok (.if_icmp .ge 25, 3) := by decide +kernel
theorem dX12_keeps_18 : decode cX12_keeps 18 = .ok (.aload_n 0, 1) := by decide +kernel
theorem dX12_keeps_19 : decode cX12_keeps 19 = .ok (.getfield 13, 3) := by decide +kernel
theorem dX12_keeps_22 : decode cX12_keeps 22 = .ok (.iload_n 1, 1) := by decide +kernel
theorem dX12_keeps_23 : decode cX12_keeps 23 = .ok (.aload_n 0, 1) := by decide +kernel
theorem dX12_keeps_24 : decode cX12_keeps 24 = .ok (.getfield 13, 3) := by decide +kernel
theorem dX12_keeps_27 : decode cX12_keeps 27 = .ok (.iload_n 1, 1) := by decide +kernel
theorem dX12_keeps_28 : decode cX12_keeps 28 = .ok (.sipush 984, 3) := by decide +kernel
theorem dX12_keeps_31 : decode cX12_keeps 31 = .ok (.iadd, 1) := by decide +kernel
theorem dX12_keeps_32 : decode cX12_keeps 32 = .ok (.iaload, 1) := by decide +kernel
theorem dX12_keeps_33 : decode cX12_keeps 33 = .ok (.iastore, 1) := by decide +kernel
theorem dX12_keeps_34 : decode cX12_keeps 34 = .ok (.iinc 1 1, 3) := by decide +kernel
theorem dX12_keeps_37 : decode cX12_keeps 37 = .ok (.goto (-26), 3) := by decide +kernel
theorem dX12_keeps_40 : decode cX12_keeps 40 = .ok (.aload_n 0, 1) := by decide +kernel
theorem dX12_keeps_41 : decode cX12_keeps 41 = .ok (.dup, 1) := by decide +kernel
theorem dX12_keeps_42 : decode cX12_keeps 42 = .ok (.getfield 83, 3) := by decide +kernel
theorem dX12_keeps_45 : decode cX12_keeps 45 = .ok (.iconst 1, 1) := by decide +kernel
theorem dX12_keeps_46 : decode cX12_keeps 46 = .ok (.isub, 1) := by decide +kernel
theorem dX12_keeps_47 : decode cX12_keeps 47 = .ok (.putfield 83, 3) := by decide +kernel
theorem dX12_keeps_50 : decode cX12_keeps 50 = .ok (.iconst 0, 1) := by decide +kernel
theorem dX12_keeps_51 : decode cX12_keeps 51 = .ok (.istore_n 1, 1) := by decide +kernel
theorem dX12_keeps_52 : decode cX12_keeps 52 = .ok (.iload_n 1, 1) := by decide +kernel
theorem dX12_keeps_53 : decode cX12_keeps 53 = .ok (.sipush 984, 3) := by decide +kernel
theorem dX12_keeps_56 : decode cX12_keeps 56 = .ok (.if_icmp .ge 30, 3) := by decide +kernel
theorem dX12_keeps_59 : decode cX12_keeps 59 = .ok (.aload_n 0, 1) := by decide +kernel
theorem dX12_keeps_60 : decode cX12_keeps 60 = .ok (.getfield 13, 3) := by decide +kernel
theorem dX12_keeps_63 : decode cX12_keeps 63 = .ok (.sipush 984, 3) := by decide +kernel
theorem dX12_keeps_66 : decode cX12_keeps 66 = .ok (.aload_n 0, 1) := by decide +kernel
theorem dX12_keeps_67 : decode cX12_keeps 67 = .ok (.getfield 83, 3) := by decide +kernel
theorem dX12_keeps_70 : decode cX12_keeps 70 = .ok (.imul, 1) := by decide +kernel
theorem dX12_keeps_71 : decode cX12_keeps 71 = .ok (.iload_n 1, 1) := by decide +kernel
theorem dX12_keeps_72 : decode cX12_keeps 72 = .ok (.iadd, 1) := by decide +kernel
theorem dX12_keeps_73 : decode cX12_keeps 73 = .ok (.aload_n 0, 1) := by decide +kernel
theorem dX12_keeps_74 : decode cX12_keeps 74 = .ok (.getfield 7, 3) := by decide +kernel
theorem dX12_keeps_77 : decode cX12_keeps 77 = .ok (.iload_n 1, 1) := by decide +kernel
theorem dX12_keeps_78 : decode cX12_keeps 78 = .ok (.iaload, 1) := by decide +kernel
theorem dX12_keeps_79 : decode cX12_keeps 79 = .ok (.iastore, 1) := by decide +kernel
theorem dX12_keeps_80 : decode cX12_keeps 80 = .ok (.iinc 1 1, 3) := by decide +kernel
theorem dX12_keeps_83 : decode cX12_keeps 83 = .ok (.goto (-31), 3) := by decide +kernel
theorem dX12_keeps_86 : decode cX12_keeps 86 = .ok (.aload_n 0, 1) := by decide +kernel
theorem dX12_keeps_87 : decode cX12_keeps 87 = .ok (.dup, 1) := by decide +kernel
theorem dX12_keeps_88 : decode cX12_keeps 88 = .ok (.getfield 83, 3) := by decide +kernel
theorem dX12_keeps_91 : decode cX12_keeps 91 = .ok (.iconst 1, 1) := by decide +kernel
theorem dX12_keeps_92 : decode cX12_keeps 92 = .ok (.iadd, 1) := by decide +kernel
theorem dX12_keeps_93 : decode cX12_keeps 93 = .ok (.putfield 83, 3) := by decide +kernel
theorem dX12_keeps_96 : decode cX12_keeps 96 = .ok (.return_, 1) := by decide +kernel
theorem dX12_termOf_0 : decode cX12_termOf 0 = .ok (.iconst 0, 1) := by decide +kernel
theorem dX12_termOf_1 : decode cX12_termOf 1 = .ok (.istore 4, 2) := by decide +kernel
theorem dX12_termOf_3 : decode cX12_termOf 3 = .ok (.iload 4, 2) := by decide +kernel
theorem dX12_termOf_5 : decode cX12_termOf 5 = .ok (.aload_n 0, 1) := by decide +kernel
theorem dX12_termOf_6 : decode cX12_termOf 6 = .ok (.getfield 7, 3) := by decide +kernel
theorem dX12_termOf_9 : decode cX12_termOf 9 = .ok (.iconst 0, 1) := by decide +kernel
theorem dX12_termOf_10 : decode cX12_termOf 10 = .ok (.iaload, 1) := by decide +kernel
theorem dX12_termOf_11 : decode cX12_termOf 11 = .ok (.if_icmp .ge 53, 3) := by decide +kernel
theorem dX12_termOf_14 : decode cX12_termOf 14 = .ok (.aload_n 0, 1) := by decide +kernel
theorem dX12_termOf_15 : decode cX12_termOf 15 = .ok (.getfield 7, 3) := by decide +kernel
theorem dX12_termOf_18 : decode cX12_termOf 18 = .ok (.iconst 2, 1) := by decide +kernel
theorem dX12_termOf_19 : decode cX12_termOf 19 = .ok (.iload 4, 2) := by decide +kernel
theorem dX12_termOf_21 : decode cX12_termOf 21 = .ok (.iadd, 1) := by decide +kernel
theorem dX12_termOf_22 : decode cX12_termOf 22 = .ok (.iaload, 1) := by decide +kernel
theorem dX12_termOf_23 : decode cX12_termOf 23 = .ok (.iload_n 1, 1) := by decide +kernel
theorem dX12_termOf_24 : decode cX12_termOf 24 = .ok (.if_icmp .ne 34, 3) := by decide +kernel
theorem dX12_termOf_27 : decode cX12_termOf 27 = .ok (.aload_n 0, 1) := by decide +kernel
theorem dX12_termOf_28 : decode cX12_termOf 28 = .ok (.getfield 7, 3) := by decide +kernel
theorem dX12_termOf_31 : decode cX12_termOf 31 = .ok (.bipush 52, 2) := by decide +kernel
theorem dX12_termOf_33 : decode cX12_termOf 33 = .ok (.iload 4, 2) := by decide +kernel
theorem dX12_termOf_35 : decode cX12_termOf 35 = .ok (.iadd, 1) := by decide +kernel
theorem dX12_termOf_36 : decode cX12_termOf 36 = .ok (.iaload, 1) := by decide +kernel
theorem dX12_termOf_37 : decode cX12_termOf 37 = .ok (.iload_n 2, 1) := by decide +kernel
theorem dX12_termOf_38 : decode cX12_termOf 38 = .ok (.if_icmp .ne 20, 3) := by decide +kernel
theorem dX12_termOf_41 : decode cX12_termOf 41 = .ok (.aload_n 0, 1) := by decide +kernel
theorem dX12_termOf_42 : decode cX12_termOf 42 = .ok (.getfield 7, 3) := by decide +kernel
theorem dX12_termOf_45 : decode cX12_termOf 45 = .ok (.bipush 102, 2) := by decide +kernel
theorem dX12_termOf_47 : decode cX12_termOf 47 = .ok (.iload 4, 2) := by decide +kernel
theorem dX12_termOf_49 : decode cX12_termOf 49 = .ok (.iadd, 1) := by decide +kernel
theorem dX12_termOf_50 : decode cX12_termOf 50 = .ok (.iaload, 1) := by decide +kernel
theorem dX12_termOf_51 : decode cX12_termOf 51 = .ok (.iload_n 3, 1) := by decide +kernel
theorem dX12_termOf_52 : decode cX12_termOf 52 = .ok (.if_icmp .ne 6, 3) := by decide +kernel
theorem dX12_termOf_55 : decode cX12_termOf 55 = .ok (.iload 4, 2) := by decide +kernel
theorem dX12_termOf_57 : decode cX12_termOf 57 = .ok (.ireturn, 1) := by decide +kernel
theorem dX12_termOf_58 : decode cX12_termOf 58 = .ok (.iinc 4 1, 3) := by decide +kernel
theorem dX12_termOf_61 : decode cX12_termOf 61 = .ok (.goto (-58), 3) := by decide +kernel
theorem dX12_termOf_64 : decode cX12_termOf 64 = .ok (.iconst (-1), 1) := by decide +kernel
theorem dX12_termOf_65 : decode cX12_termOf 65 = .ok (.ireturn, 1) := by decide +kernel
theorem dX12_comes_0 : decode cX12_comes 0 = .ok (.aload_n 0, 1) := by decide +kernel
theorem dX12_comes_1 : decode cX12_comes 1 = .ok (.iload_n 1, 1) := by decide +kernel
theorem dX12_comes_2 : decode cX12_comes 2 = .ok (.iload_n 2, 1) := by decide +kernel
theorem dX12_comes_3 : decode cX12_comes 3 = .ok (.iload_n 3, 1) := by decide +kernel
theorem dX12_comes_4 : decode cX12_comes 4 = .ok (.invokevirtual 87, 3) := by decide +kernel
theorem dX12_comes_7 : decode cX12_comes 7 = .ok (.istore 5, 2) := by decide +kernel
theorem dX12_comes_9 : decode cX12_comes 9 = .ok (.iload 5, 2) := by decide +kernel
theorem dX12_comes_11 : decode cX12_comes 11 = .ok (.ifCond .lt 6, 3) := by decide +kernel
theorem dX12_comes_14 : decode cX12_comes 14 = .ok (.iload 5, 2) := by decide +kernel
theorem dX12_comes_16 : decode cX12_comes 16 = .ok (.ireturn, 1) := by decide +kernel
theorem dX12_comes_17 : decode cX12_comes 17 = .ok (.aload_n 0, 1) := by decide +kernel
theorem dX12_comes_18 : decode cX12_comes 18 = .ok (.getfield 7, 3) := by decide +kernel
theorem dX12_comes_21 : decode cX12_comes 21 = .ok (.iconst 0, 1) := by decide +kernel
theorem dX12_comes_22 : decode cX12_comes 22 = .ok (.iaload, 1) := by decide +kernel
theorem dX12_comes_23 : decode cX12_comes 23 = .ok (.bipush 50, 2) := by decide +kernel
theorem dX12_comes_25 : decode cX12_comes 25 = .ok (.if_icmp .ne 10, 3) := by decide +kernel
theorem dX12_comes_28 : decode cX12_comes 28 = .ok (.aload_n 0, 1) := by decide +kernel
theorem dX12_comes_29 : decode cX12_comes 29 = .ok (.iconst 1, 1) := by decide +kernel
theorem dX12_comes_30 : decode cX12_comes 30 = .ok (.putfield 91, 3) := by decide +kernel
theorem dX12_comes_33 : decode cX12_comes 33 = .ok (.iconst 0, 1) := by decide +kernel
theorem dX12_comes_34 : decode cX12_comes 34 = .ok (.ireturn, 1) := by decide +kernel
theorem dX12_comes_35 : decode cX12_comes 35 = .ok (.aload_n 0, 1) := by decide +kernel
theorem dX12_comes_36 : decode cX12_comes 36 = .ok (.getfield 7, 3) := by decide +kernel
theorem dX12_comes_39 : decode cX12_comes 39 = .ok (.iconst 0, 1) := by decide +kernel
theorem dX12_comes_40 : decode cX12_comes 40 = .ok (.iaload, 1) := by decide +kernel
theorem dX12_comes_41 : decode cX12_comes 41 = .ok (.istore 5, 2) := by decide +kernel
theorem dX12_comes_43 : decode cX12_comes 43 = .ok (.aload_n 0, 1) := by decide +kernel
theorem dX12_comes_44 : decode cX12_comes 44 = .ok (.getfield 7, 3) := by decide +kernel
theorem dX12_comes_47 : decode cX12_comes 47 = .ok (.iconst 2, 1) := by decide +kernel
theorem dX12_comes_48 : decode cX12_comes 48 = .ok (.iload 5, 2) := by decide +kernel
theorem dX12_comes_50 : decode cX12_comes 50 = .ok (.iadd, 1) := by decide +kernel
theorem dX12_comes_51 : decode cX12_comes 51 = .ok (.iload_n 1, 1) := by decide +kernel
theorem dX12_comes_52 : decode cX12_comes 52 = .ok (.iastore, 1) := by decide +kernel
theorem dX12_comes_53 : decode cX12_comes 53 = .ok (.aload_n 0, 1) := by decide +kernel
theorem dX12_comes_54 : decode cX12_comes 54 = .ok (.getfield 7, 3) := by decide +kernel
theorem dX12_comes_57 : decode cX12_comes 57 = .ok (.bipush 52, 2) := by decide +kernel
theorem dX12_comes_59 : decode cX12_comes 59 = .ok (.iload 5, 2) := by decide +kernel
theorem dX12_comes_61 : decode cX12_comes 61 = .ok (.iadd, 1) := by decide +kernel
theorem dX12_comes_62 : decode cX12_comes 62 = .ok (.iload_n 2, 1) := by decide +kernel
theorem dX12_comes_63 : decode cX12_comes 63 = .ok (.iastore, 1) := by decide +kernel
theorem dX12_comes_64 : decode cX12_comes 64 = .ok (.aload_n 0, 1) := by decide +kernel
theorem dX12_comes_65 : decode cX12_comes 65 = .ok (.getfield 7, 3) := by decide +kernel
theorem dX12_comes_68 : decode cX12_comes 68 = .ok (.bipush 102, 2) := by decide +kernel
theorem dX12_comes_70 : decode cX12_comes 70 = .ok (.iload 5, 2) := by decide +kernel
theorem dX12_comes_72 : decode cX12_comes 72 = .ok (.iadd, 1) := by decide +kernel
theorem dX12_comes_73 : decode cX12_comes 73 = .ok (.iload_n 3, 1) := by decide +kernel
theorem dX12_comes_74 : decode cX12_comes 74 = .ok (.iastore, 1) := by decide +kernel
theorem dX12_comes_75 : decode cX12_comes 75 = .ok (.aload_n 0, 1) := by decide +kernel
theorem dX12_comes_76 : decode cX12_comes 76 = .ok (.getfield 7, 3) := by decide +kernel
theorem dX12_comes_79 : decode cX12_comes 79 = .ok (.sipush 152, 3) := by decide +kernel
theorem dX12_comes_82 : decode cX12_comes 82 = .ok (.iload 5, 2) := by decide +kernel
theorem dX12_comes_84 : decode cX12_comes 84 = .ok (.iadd, 1) := by decide +kernel
theorem dX12_comes_85 : decode cX12_comes 85 = .ok (.iload 4, 2) := by decide +kernel
theorem dX12_comes_87 : decode cX12_comes 87 = .ok (.iastore, 1) := by decide +kernel
theorem dX12_comes_88 : decode cX12_comes 88 = .ok (.aload_n 0, 1) := by decide +kernel
theorem dX12_comes_89 : decode cX12_comes 89 = .ok (.getfield 7, 3) := by decide +kernel
theorem dX12_comes_92 : decode cX12_comes 92 = .ok (.sipush 202, 3) := by decide +kernel
theorem dX12_comes_95 : decode cX12_comes 95 = .ok (.iload 5, 2) := by decide +kernel
theorem dX12_comes_97 : decode cX12_comes 97 = .ok (.iadd, 1) := by decide +kernel
theorem dX12_comes_98 : decode cX12_comes 98 = .ok (.iload 5, 2) := by decide +kernel
theorem dX12_comes_100 : decode cX12_comes 100 = .ok (.iastore, 1) := by decide +kernel
theorem dX12_comes_101 : decode cX12_comes 101 = .ok (.aload_n 0, 1) := by decide +kernel
theorem dX12_comes_102 : decode cX12_comes 102 = .ok (.getfield 7, 3) := by decide +kernel
theorem dX12_comes_105 : decode cX12_comes 105 = .ok (.iconst 0, 1) := by decide +kernel
theorem dX12_comes_106 : decode cX12_comes 106 = .ok (.dup2, 1) := by decide +kernel
theorem dX12_comes_107 : decode cX12_comes 107 = .ok (.iaload, 1) := by decide +kernel
theorem dX12_comes_108 : decode cX12_comes 108 = .ok (.iconst 1, 1) := by decide +kernel
theorem dX12_comes_109 : decode cX12_comes 109 = .ok (.iadd, 1) := by decide +kernel
theorem dX12_comes_110 : decode cX12_comes 110 = .ok (.iastore, 1) := by decide +kernel
theorem dX12_comes_111 : decode cX12_comes 111 = .ok (.iload 5, 2) := by decide +kernel
theorem dX12_comes_113 : decode cX12_comes 113 = .ok (.ireturn, 1) := by decide +kernel
theorem dX12_joins_0 : decode cX12_joins 0 = .ok (.aload_n 0, 1) := by decide +kernel
theorem dX12_joins_1 : decode cX12_joins 1 = .ok (.iload_n 1, 1) := by decide +kernel
theorem dX12_joins_2 : decode cX12_joins 2 = .ok (.invokevirtual 95, 3) := by decide +kernel
theorem dX12_joins_5 : decode cX12_joins 5 = .ok (.istore_n 3, 1) := by decide +kernel
theorem dX12_joins_6 : decode cX12_joins 6 = .ok (.aload_n 0, 1) := by decide +kernel
theorem dX12_joins_7 : decode cX12_joins 7 = .ok (.iload_n 2, 1) := by decide +kernel
theorem dX12_joins_8 : decode cX12_joins 8 = .ok (.invokevirtual 95, 3) := by decide +kernel
theorem dX12_joins_11 : decode cX12_joins 11 = .ok (.istore 4, 2) := by decide +kernel
theorem dX12_joins_13 : decode cX12_joins 13 = .ok (.iload_n 3, 1) := by decide +kernel
theorem dX12_joins_14 : decode cX12_joins 14 = .ok (.iload 4, 2) := by decide +kernel
theorem dX12_joins_16 : decode cX12_joins 16 = .ok (.if_icmp .ge 7, 3) := by decide +kernel
theorem dX12_joins_19 : decode cX12_joins 19 = .ok (.iload_n 3, 1) := by decide +kernel
theorem dX12_joins_20 : decode cX12_joins 20 = .ok (.goto 5, 3) := by decide +kernel
theorem dX12_joins_23 : decode cX12_joins 23 = .ok (.iload 4, 2) := by decide +kernel
theorem dX12_joins_25 : decode cX12_joins 25 = .ok (.istore 5, 2) := by decide +kernel
theorem dX12_joins_27 : decode cX12_joins 27 = .ok (.iload_n 3, 1) := by decide +kernel
theorem dX12_joins_28 : decode cX12_joins 28 = .ok (.iload 4, 2) := by decide +kernel
theorem dX12_joins_30 : decode cX12_joins 30 = .ok (.if_icmp .ge 8, 3) := by decide +kernel
theorem dX12_joins_33 : decode cX12_joins 33 = .ok (.iload 4, 2) := by decide +kernel
theorem dX12_joins_35 : decode cX12_joins 35 = .ok (.goto 4, 3) := by decide +kernel
theorem dX12_joins_38 : decode cX12_joins 38 = .ok (.iload_n 3, 1) := by decide +kernel
theorem dX12_joins_39 : decode cX12_joins 39 = .ok (.istore 6, 2) := by decide +kernel
theorem dX12_joins_41 : decode cX12_joins 41 = .ok (.iconst 0, 1) := by decide +kernel
theorem dX12_joins_42 : decode cX12_joins 42 = .ok (.istore 7, 2) := by decide +kernel
theorem dX12_joins_44 : decode cX12_joins 44 = .ok (.iload 7, 2) := by decide +kernel
theorem dX12_joins_46 : decode cX12_joins 46 = .ok (.aload_n 0, 1) := by decide +kernel
theorem dX12_joins_47 : decode cX12_joins 47 = .ok (.getfield 7, 3) := by decide +kernel
theorem dX12_joins_50 : decode cX12_joins 50 = .ok (.iconst 0, 1) := by decide +kernel
theorem dX12_joins_51 : decode cX12_joins 51 = .ok (.iaload, 1) := by decide +kernel
theorem dX12_joins_52 : decode cX12_joins 52 = .ok (.if_icmp .ge 52, 3) := by decide +kernel
theorem dX12_joins_55 : decode cX12_joins 55 = .ok (.aload_n 0, 1) := by decide +kernel
theorem dX12_joins_56 : decode cX12_joins 56 = .ok (.getfield 7, 3) := by decide +kernel
theorem dX12_joins_59 : decode cX12_joins 59 = .ok (.sipush 202, 3) := by decide +kernel
theorem dX12_joins_62 : decode cX12_joins 62 = .ok (.iload 7, 2) := by decide +kernel
theorem dX12_joins_64 : decode cX12_joins 64 = .ok (.iadd, 1) := by decide +kernel
theorem dX12_joins_65 : decode cX12_joins 65 = .ok (.aload_n 0, 1) := by decide +kernel
theorem dX12_joins_66 : decode cX12_joins 66 = .ok (.getfield 7, 3) := by decide +kernel
theorem dX12_joins_69 : decode cX12_joins 69 = .ok (.sipush 202, 3) := by decide +kernel
theorem dX12_joins_72 : decode cX12_joins 72 = .ok (.iload 7, 2) := by decide +kernel
theorem dX12_joins_74 : decode cX12_joins 74 = .ok (.iadd, 1) := by decide +kernel
theorem dX12_joins_75 : decode cX12_joins 75 = .ok (.iaload, 1) := by decide +kernel
theorem dX12_joins_76 : decode cX12_joins 76 = .ok (.iload 6, 2) := by decide +kernel
theorem dX12_joins_78 : decode cX12_joins 78 = .ok (.if_icmp .ne 8, 3) := by decide +kernel
theorem dX12_joins_81 : decode cX12_joins 81 = .ok (.iload 5, 2) := by decide +kernel
theorem dX12_joins_83 : decode cX12_joins 83 = .ok (.goto 14, 3) := by decide +kernel
theorem dX12_joins_86 : decode cX12_joins 86 = .ok (.aload_n 0, 1) := by decide +kernel
theorem dX12_joins_87 : decode cX12_joins 87 = .ok (.getfield 7, 3) := by decide +kernel
theorem dX12_joins_90 : decode cX12_joins 90 = .ok (.sipush 202, 3) := by decide +kernel
theorem dX12_joins_93 : decode cX12_joins 93 = .ok (.iload 7, 2) := by decide +kernel
theorem dX12_joins_95 : decode cX12_joins 95 = .ok (.iadd, 1) := by decide +kernel
theorem dX12_joins_96 : decode cX12_joins 96 = .ok (.iaload, 1) := by decide +kernel
theorem dX12_joins_97 : decode cX12_joins 97 = .ok (.iastore, 1) := by decide +kernel
theorem dX12_joins_98 : decode cX12_joins 98 = .ok (.iinc 7 1, 3) := by decide +kernel
theorem dX12_joins_101 : decode cX12_joins 101 = .ok (.goto (-57), 3) := by decide +kernel
theorem dX12_joins_104 : decode cX12_joins 104 = .ok (.iload_n 3, 1) := by decide +kernel
theorem dX12_joins_105 : decode cX12_joins 105 = .ok (.iload 4, 2) := by decide +kernel
theorem dX12_joins_107 : decode cX12_joins 107 = .ok (.if_icmp .eq 7, 3) := by decide +kernel
theorem dX12_joins_110 : decode cX12_joins 110 = .ok (.iconst 1, 1) := by decide +kernel
theorem dX12_joins_111 : decode cX12_joins 111 = .ok (.goto 4, 3) := by decide +kernel
theorem dX12_joins_114 : decode cX12_joins 114 = .ok (.iconst 0, 1) := by decide +kernel
theorem dX12_joins_115 : decode cX12_joins 115 = .ok (.ireturn, 1) := by decide +kernel
theorem dX12_isPart_0 : decode cX12_isPart 0 = .ok (.iload_n 1, 1) := by decide +kernel
theorem dX12_isPart_1 : decode cX12_isPart 1 = .ok (.ifCond .ge 15, 3) := by decide +kernel
theorem dX12_isPart_4 : decode cX12_isPart 4 = .ok (.iload_n 2, 1) := by decide +kernel
theorem dX12_isPart_5 : decode cX12_isPart 5 = .ok (.ifCond .ge 7, 3) := by decide +kernel
theorem dX12_isPart_8 : decode cX12_isPart 8 = .ok (.iconst 1, 1) := by decide +kernel
theorem dX12_isPart_9 : decode cX12_isPart 9 = .ok (.goto 29, 3) := by decide +kernel
theorem dX12_isPart_12 : decode cX12_isPart 12 = .ok (.iconst 0, 1) := by decide +kernel
theorem dX12_isPart_13 : decode cX12_isPart 13 = .ok (.goto 25, 3) := by decide +kernel
theorem dX12_isPart_16 : decode cX12_isPart 16 = .ok (.iload_n 2, 1) := by decide +kernel
theorem dX12_isPart_17 : decode cX12_isPart 17 = .ok (.ifCond .lt 20, 3) := by decide +kernel
theorem dX12_isPart_20 : decode cX12_isPart 20 = .ok (.aload_n 0, 1) := by decide +kernel
theorem dX12_isPart_21 : decode cX12_isPart 21 = .ok (.iload_n 1, 1) := by decide +kernel
theorem dX12_isPart_22 : decode cX12_isPart 22 = .ok (.invokevirtual 95, 3) := by decide +kernel
theorem dX12_isPart_25 : decode cX12_isPart 25 = .ok (.aload_n 0, 1) := by decide +kernel
theorem dX12_isPart_26 : decode cX12_isPart 26 = .ok (.iload_n 2, 1) := by decide +kernel
theorem dX12_isPart_27 : decode cX12_isPart 27 = .ok (.invokevirtual 95, 3) := by decide +kernel
theorem dX12_isPart_30 : decode cX12_isPart 30 = .ok (.if_icmp .ne 7, 3) := by decide +kernel
theorem dX12_isPart_33 : decode cX12_isPart 33 = .ok (.iconst 1, 1) := by decide +kernel
theorem dX12_isPart_34 : decode cX12_isPart 34 = .ok (.goto 4, 3) := by decide +kernel
theorem dX12_isPart_37 : decode cX12_isPart 37 = .ok (.iconst 0, 1) := by decide +kernel
theorem dX12_isPart_38 : decode cX12_isPart 38 = .ok (.ireturn, 1) := by decide +kernel
theorem dX12_closes_0 : decode cX12_closes 0 = .ok (.iconst 1, 1) := by decide +kernel
theorem dX12_closes_1 : decode cX12_closes 1 = .ok (.istore_n 1, 1) := by decide +kernel
theorem dX12_closes_2 : decode cX12_closes 2 = .ok (.iload_n 1, 1) := by decide +kernel
theorem dX12_closes_3 : decode cX12_closes 3 = .ok (.ifCond .eq 135, 3) := by decide +kernel
theorem dX12_closes_6 : decode cX12_closes 6 = .ok (.iconst 0, 1) := by decide +kernel
theorem dX12_closes_7 : decode cX12_closes 7 = .ok (.istore_n 1, 1) := by decide +kernel
theorem dX12_closes_8 : decode cX12_closes 8 = .ok (.iconst 0, 1) := by decide +kernel
theorem dX12_closes_9 : decode cX12_closes 9 = .ok (.istore_n 2, 1) := by decide +kernel
theorem dX12_closes_10 : decode cX12_closes 10 = .ok (.iload_n 2, 1) := by decide +kernel
theorem dX12_closes_11 : decode cX12_closes 11 = .ok (.aload_n 0, 1) := by decide +kernel
theorem dX12_closes_12 : decode cX12_closes 12 = .ok (.getfield 7, 3) := by decide +kernel
theorem dX12_closes_15 : decode cX12_closes 15 = .ok (.iconst 0, 1) := by decide +kernel
theorem dX12_closes_16 : decode cX12_closes 16 = .ok (.iaload, 1) := by decide +kernel
theorem dX12_closes_17 : decode cX12_closes 17 = .ok (.if_icmp .ge 118, 3) := by decide +kernel
theorem dX12_closes_20 : decode cX12_closes 20 = .ok (.iload_n 2, 1) := by decide +kernel
theorem dX12_closes_21 : decode cX12_closes 21 = .ok (.iconst 1, 1) := by decide +kernel
theorem dX12_closes_22 : decode cX12_closes 22 = .ok (.iadd, 1) := by decide +kernel
theorem dX12_closes_23 : decode cX12_closes 23 = .ok (.istore_n 3, 1) := by decide +kernel
theorem dX12_closes_24 : decode cX12_closes 24 = .ok (.iload_n 3, 1) := by decide +kernel
theorem dX12_closes_25 : decode cX12_closes 25 = .ok (.aload_n 0, 1) := by decide +kernel
theorem dX12_closes_26 : decode cX12_closes 26 = .ok (.getfield 7, 3) := by decide +kernel
theorem dX12_closes_29 : decode cX12_closes 29 = .ok (.iconst 0, 1) := by decide +kernel
theorem dX12_closes_30 : decode cX12_closes 30 = .ok (.iaload, 1) := by decide +kernel
theorem dX12_closes_31 : decode cX12_closes 31 = .ok (.if_icmp .ge 98, 3) := by decide +kernel
theorem dX12_closes_34 : decode cX12_closes 34 = .ok (.aload_n 0, 1) := by decide +kernel
theorem dX12_closes_35 : decode cX12_closes 35 = .ok (.getfield 7, 3) := by decide +kernel
theorem dX12_closes_38 : decode cX12_closes 38 = .ok (.iconst 2, 1) := by decide +kernel
theorem dX12_closes_39 : decode cX12_closes 39 = .ok (.iload_n 2, 1) := by decide +kernel
theorem dX12_closes_40 : decode cX12_closes 40 = .ok (.iadd, 1) := by decide +kernel
theorem dX12_closes_41 : decode cX12_closes 41 = .ok (.iaload, 1) := by decide +kernel
theorem dX12_closes_42 : decode cX12_closes 42 = .ok (.aload_n 0, 1) := by decide +kernel
theorem dX12_closes_43 : decode cX12_closes 43 = .ok (.getfield 7, 3) := by decide +kernel
theorem dX12_closes_46 : decode cX12_closes 46 = .ok (.iconst 2, 1) := by decide +kernel
theorem dX12_closes_47 : decode cX12_closes 47 = .ok (.iload_n 3, 1) := by decide +kernel
theorem dX12_closes_48 : decode cX12_closes 48 = .ok (.iadd, 1) := by decide +kernel
theorem dX12_closes_49 : decode cX12_closes 49 = .ok (.iaload, 1) := by decide +kernel
theorem dX12_closes_50 : decode cX12_closes 50 = .ok (.if_icmp .ne 73, 3) := by decide +kernel
theorem dX12_closes_53 : decode cX12_closes 53 = .ok (.aload_n 0, 1) := by decide +kernel
theorem dX12_closes_54 : decode cX12_closes 54 = .ok (.iload_n 2, 1) := by decide +kernel
theorem dX12_closes_55 : decode cX12_closes 55 = .ok (.invokevirtual 95, 3) := by decide +kernel
theorem dX12_closes_58 : decode cX12_closes 58 = .ok (.aload_n 0, 1) := by decide +kernel
theorem dX12_closes_59 : decode cX12_closes 59 = .ok (.iload_n 3, 1) := by decide +kernel
theorem dX12_closes_60 : decode cX12_closes 60 = .ok (.invokevirtual 95, 3) := by decide +kernel
theorem dX12_closes_63 : decode cX12_closes 63 = .ok (.if_icmp .eq 60, 3) := by decide +kernel
theorem dX12_closes_66 : decode cX12_closes 66 = .ok (.aload_n 0, 1) := by decide +kernel
theorem dX12_closes_67 : decode cX12_closes 67 = .ok (.aload_n 0, 1) := by decide +kernel
theorem dX12_closes_68 : decode cX12_closes 68 = .ok (.getfield 7, 3) := by decide +kernel
theorem dX12_closes_71 : decode cX12_closes 71 = .ok (.bipush 52, 2) := by decide +kernel
theorem dX12_closes_73 : decode cX12_closes 73 = .ok (.iload_n 2, 1) := by decide +kernel
theorem dX12_closes_74 : decode cX12_closes 74 = .ok (.iadd, 1) := by decide +kernel
theorem dX12_closes_75 : decode cX12_closes 75 = .ok (.iaload, 1) := by decide +kernel
theorem dX12_closes_76 : decode cX12_closes 76 = .ok (.aload_n 0, 1) := by decide +kernel
theorem dX12_closes_77 : decode cX12_closes 77 = .ok (.getfield 7, 3) := by decide +kernel
theorem dX12_closes_80 : decode cX12_closes 80 = .ok (.bipush 52, 2) := by decide +kernel
theorem dX12_closes_82 : decode cX12_closes 82 = .ok (.iload_n 3, 1) := by decide +kernel
theorem dX12_closes_83 : decode cX12_closes 83 = .ok (.iadd, 1) := by decide +kernel
theorem dX12_closes_84 : decode cX12_closes 84 = .ok (.iaload, 1) := by decide +kernel
theorem dX12_closes_85 : decode cX12_closes 85 = .ok (.invokevirtual 99, 3) := by decide +kernel
theorem dX12_closes_88 : decode cX12_closes 88 = .ok (.ifCond .eq 35, 3) := by decide +kernel
theorem dX12_closes_91 : decode cX12_closes 91 = .ok (.aload_n 0, 1) := by decide +kernel
theorem dX12_closes_92 : decode cX12_closes 92 = .ok (.aload_n 0, 1) := by decide +kernel
theorem dX12_closes_93 : decode cX12_closes 93 = .ok (.getfield 7, 3) := by decide +kernel
theorem dX12_closes_96 : decode cX12_closes 96 = .ok (.bipush 102, 2) := by decide +kernel
theorem dX12_closes_98 : decode cX12_closes 98 = .ok (.iload_n 2, 1) := by decide +kernel
theorem dX12_closes_99 : decode cX12_closes 99 = .ok (.iadd, 1) := by decide +kernel
theorem dX12_closes_100 : decode cX12_closes 100 = .ok (.iaload, 1) := by decide +kernel
theorem dX12_closes_101 : decode cX12_closes 101 = .ok (.aload_n 0, 1) := by decide +kernel
theorem dX12_closes_102 : decode cX12_closes 102 = .ok (.getfield 7, 3) := by decide +kernel
theorem dX12_closes_105 : decode cX12_closes 105 = .ok (.bipush 102, 2) := by decide +kernel
theorem dX12_closes_107 : decode cX12_closes 107 = .ok (.iload_n 3, 1) := by decide +kernel
theorem dX12_closes_108 : decode cX12_closes 108 = .ok (.iadd, 1) := by decide +kernel
theorem dX12_closes_109 : decode cX12_closes 109 = .ok (.iaload, 1) := by decide +kernel
theorem dX12_closes_110 : decode cX12_closes 110 = .ok (.invokevirtual 99, 3) := by decide +kernel
theorem dX12_closes_113 : decode cX12_closes 113 = .ok (.ifCond .eq 10, 3) := by decide +kernel
theorem dX12_closes_116 : decode cX12_closes 116 = .ok (.aload_n 0, 1) := by decide +kernel
theorem dX12_closes_117 : decode cX12_closes 117 = .ok (.iload_n 2, 1) := by decide +kernel
theorem dX12_closes_118 : decode cX12_closes 118 = .ok (.iload_n 3, 1) := by decide +kernel
theorem dX12_closes_119 : decode cX12_closes 119 = .ok (.invokevirtual 103, 3) := by decide +kernel
theorem dX12_closes_122 : decode cX12_closes 122 = .ok (.istore_n 1, 1) := by decide +kernel
theorem dX12_closes_123 : decode cX12_closes 123 = .ok (.iinc 3 1, 3) := by decide +kernel
theorem dX12_closes_126 : decode cX12_closes 126 = .ok (.goto (-102), 3) := by decide +kernel
theorem dX12_closes_129 : decode cX12_closes 129 = .ok (.iinc 2 1, 3) := by decide +kernel
theorem dX12_closes_132 : decode cX12_closes 132 = .ok (.goto (-122), 3) := by decide +kernel
theorem dX12_closes_135 : decode cX12_closes 135 = .ok (.goto (-133), 3) := by decide +kernel
theorem dX12_closes_138 : decode cX12_closes 138 = .ok (.return_, 1) := by decide +kernel
theorem dX12_classesOf_0 : decode cX12_classesOf 0 = .ok (.iconst 0, 1) := by decide +kernel
theorem dX12_classesOf_1 : decode cX12_classesOf 1 = .ok (.istore_n 2, 1) := by decide +kernel
theorem dX12_classesOf_2 : decode cX12_classesOf 2 = .ok (.iconst 0, 1) := by decide +kernel
theorem dX12_classesOf_3 : decode cX12_classesOf 3 = .ok (.istore_n 3, 1) := by decide +kernel
theorem dX12_classesOf_4 : decode cX12_classesOf 4 = .ok (.iload_n 3, 1) := by decide +kernel
theorem dX12_classesOf_5 : decode cX12_classesOf 5 = .ok (.iload_n 1, 1) := by decide +kernel
theorem dX12_classesOf_6 : decode cX12_classesOf 6 = .ok (.if_icmp .ge 26, 3) := by decide +kernel
theorem dX12_classesOf_9 : decode cX12_classesOf 9 = .ok (.iload_n 2, 1) := by decide +kernel
theorem dX12_classesOf_10 : decode cX12_classesOf 10 = .ok (.aload_n 0, 1) := by decide +kernel
theorem dX12_classesOf_11 : decode cX12_classesOf 11 = .ok (.iload_n 3, 1) := by decide +kernel
theorem dX12_classesOf_12 : decode cX12_classesOf 12 = .ok (.invokevirtual 95, 3) := by decide +kernel
theorem dX12_classesOf_15 : decode cX12_classesOf 15 = .ok (.iload_n 3, 1) := by decide +kernel
theorem dX12_classesOf_16 : decode cX12_classesOf 16 = .ok (.if_icmp .ne 7, 3) := by decide +kernel
theorem dX12_classesOf_19 : decode cX12_classesOf 19 = .ok (.iconst 1, 1) := by decide +kernel
theorem dX12_classesOf_20 : decode cX12_classesOf 20 = .ok (.goto 4, 3) := by decide +kernel
theorem dX12_classesOf_23 : decode cX12_classesOf 23 = .ok (.iconst 0, 1) := by decide +kernel
theorem dX12_classesOf_24 : decode cX12_classesOf 24 = .ok (.iadd, 1) := by decide +kernel
theorem dX12_classesOf_25 : decode cX12_classesOf 25 = .ok (.istore_n 2, 1) := by decide +kernel
theorem dX12_classesOf_26 : decode cX12_classesOf 26 = .ok (.iinc 3 1, 3) := by decide +kernel
theorem dX12_classesOf_29 : decode cX12_classesOf 29 = .ok (.goto (-25), 3) := by decide +kernel
theorem dX12_classesOf_32 : decode cX12_classesOf 32 = .ok (.iload_n 2, 1) := by decide +kernel
theorem dX12_classesOf_33 : decode cX12_classesOf 33 = .ok (.ireturn, 1) := by decide +kernel
theorem dX12_term_0 : decode cX12_term 0 = .ok (.iload_n 1, 1) := by decide +kernel
theorem dX12_term_1 : decode cX12_term 1 = .ok (.iconst 0, 1) := by decide +kernel
theorem dX12_term_2 : decode cX12_term 2 = .ok (.bipush 6, 2) := by decide +kernel
theorem dX12_term_4 : decode cX12_term 4 = .ok (.invokestatic 79, 3) := by decide +kernel
theorem dX12_term_7 : decode cX12_term 7 = .ok (.ifCond .eq 34, 3) := by decide +kernel
theorem dX12_term_10 : decode cX12_term 10 = .ok (.iload_n 1, 1) := by decide +kernel
theorem dX12_term_11 : decode cX12_term 11 = .ok (.invokestatic 106, 3) := by decide +kernel
theorem dX12_term_14 : decode cX12_term 14 = .ok (.ifCond .le 11, 3) := by decide +kernel
theorem dX12_term_17 : decode cX12_term 17 = .ok (.aload_n 0, 1) := by decide +kernel
theorem dX12_term_18 : decode cX12_term 18 = .ok (.iload_n 2, 1) := by decide +kernel
theorem dX12_term_19 : decode cX12_term 19 = .ok (.invokevirtual 109, 3) := by decide +kernel
theorem dX12_term_22 : decode cX12_term 22 = .ok (.ifCond .eq 19, 3) := by decide +kernel
theorem dX12_term_25 : decode cX12_term 25 = .ok (.iload_n 1, 1) := by decide +kernel
theorem dX12_term_26 : decode cX12_term 26 = .ok (.invokestatic 106, 3) := by decide +kernel
theorem dX12_term_29 : decode cX12_term 29 = .ok (.iconst 1, 1) := by decide +kernel
theorem dX12_term_30 : decode cX12_term 30 = .ok (.if_icmp .le 18, 3) := by decide +kernel
theorem dX12_term_33 : decode cX12_term 33 = .ok (.aload_n 0, 1) := by decide +kernel
theorem dX12_term_34 : decode cX12_term 34 = .ok (.iload_n 3, 1) := by decide +kernel
theorem dX12_term_35 : decode cX12_term 35 = .ok (.invokevirtual 109, 3) := by decide +kernel
theorem dX12_term_38 : decode cX12_term 38 = .ok (.ifCond .ne 10, 3) := by decide +kernel
theorem dX12_term_41 : decode cX12_term 41 = .ok (.aload_n 0, 1) := by decide +kernel
theorem dX12_term_42 : decode cX12_term 42 = .ok (.bipush (-2), 2) := by decide +kernel
theorem dX12_term_44 : decode cX12_term 44 = .ok (.invokevirtual 113, 3) := by decide +kernel
theorem dX12_term_47 : decode cX12_term 47 = .ok (.ireturn, 1) := by decide +kernel
theorem dX12_term_48 : decode cX12_term 48 = .ok (.iload_n 1, 1) := by decide +kernel
theorem dX12_term_49 : decode cX12_term 49 = .ok (.invokestatic 106, 3) := by decide +kernel
theorem dX12_term_52 : decode cX12_term 52 = .ok (.ifCond .le 7, 3) := by decide +kernel
theorem dX12_term_55 : decode cX12_term 55 = .ok (.iload_n 2, 1) := by decide +kernel
theorem dX12_term_56 : decode cX12_term 56 = .ok (.goto 4, 3) := by decide +kernel
theorem dX12_term_59 : decode cX12_term 59 = .ok (.iconst (-1), 1) := by decide +kernel
theorem dX12_term_60 : decode cX12_term 60 = .ok (.istore 4, 2) := by decide +kernel
theorem dX12_term_62 : decode cX12_term 62 = .ok (.iload_n 1, 1) := by decide +kernel
theorem dX12_term_63 : decode cX12_term 63 = .ok (.invokestatic 106, 3) := by decide +kernel
theorem dX12_term_66 : decode cX12_term 66 = .ok (.iconst 1, 1) := by decide +kernel
theorem dX12_term_67 : decode cX12_term 67 = .ok (.if_icmp .le 7, 3) := by decide +kernel
theorem dX12_term_70 : decode cX12_term 70 = .ok (.iload_n 3, 1) := by decide +kernel
theorem dX12_term_71 : decode cX12_term 71 = .ok (.goto 4, 3) := by decide +kernel
theorem dX12_term_74 : decode cX12_term 74 = .ok (.iconst (-1), 1) := by decide +kernel
theorem dX12_term_75 : decode cX12_term 75 = .ok (.istore 5, 2) := by decide +kernel
theorem dX12_term_77 : decode cX12_term 77 = .ok (.aload_n 0, 1) := by decide +kernel
theorem dX12_term_78 : decode cX12_term 78 = .ok (.iload_n 1, 1) := by decide +kernel
theorem dX12_term_79 : decode cX12_term 79 = .ok (.iload 4, 2) := by decide +kernel
theorem dX12_term_81 : decode cX12_term 81 = .ok (.iload 5, 2) := by decide +kernel
theorem dX12_term_83 : decode cX12_term 83 = .ok (.invokevirtual 87, 3) := by decide +kernel
theorem dX12_term_86 : decode cX12_term 86 = .ok (.ifCond .ge 21, 3) := by decide +kernel
theorem dX12_term_89 : decode cX12_term 89 = .ok (.aload_n 0, 1) := by decide +kernel
theorem dX12_term_90 : decode cX12_term 90 = .ok (.getfield 7, 3) := by decide +kernel
theorem dX12_term_93 : decode cX12_term 93 = .ok (.iconst 0, 1) := by decide +kernel
theorem dX12_term_94 : decode cX12_term 94 = .ok (.iaload, 1) := by decide +kernel
theorem dX12_term_95 : decode cX12_term 95 = .ok (.bipush 50, 2) := by decide +kernel
theorem dX12_term_97 : decode cX12_term 97 = .ok (.if_icmp .ne 10, 3) := by decide +kernel
theorem dX12_term_100 : decode cX12_term 100 = .ok (.aload_n 0, 1) := by decide +kernel
theorem dX12_term_101 : decode cX12_term 101 = .ok (.bipush (-4), 2) := by decide +kernel
theorem dX12_term_103 : decode cX12_term 103 = .ok (.invokevirtual 113, 3) := by decide +kernel
theorem dX12_term_106 : decode cX12_term 106 = .ok (.ireturn, 1) := by decide +kernel
theorem dX12_term_107 : decode cX12_term 107 = .ok (.aload_n 0, 1) := by decide +kernel
theorem dX12_term_108 : decode cX12_term 108 = .ok (.invokevirtual 116, 3) := by decide +kernel
theorem dX12_term_111 : decode cX12_term 111 = .ok (.aload_n 0, 1) := by decide +kernel
theorem dX12_term_112 : decode cX12_term 112 = .ok (.iload_n 1, 1) := by decide +kernel
theorem dX12_term_113 : decode cX12_term 113 = .ok (.iload 4, 2) := by decide +kernel
theorem dX12_term_115 : decode cX12_term 115 = .ok (.iload 5, 2) := by decide +kernel
theorem dX12_term_117 : decode cX12_term 117 = .ok (.iconst 0, 1) := by decide +kernel
theorem dX12_term_118 : decode cX12_term 118 = .ok (.invokevirtual 119, 3) := by decide +kernel
theorem dX12_term_121 : decode cX12_term 121 = .ok (.istore 6, 2) := by decide +kernel
theorem dX12_term_123 : decode cX12_term 123 = .ok (.aload_n 0, 1) := by decide +kernel
theorem dX12_term_124 : decode cX12_term 124 = .ok (.getfield 7, 3) := by decide +kernel
theorem dX12_term_127 : decode cX12_term 127 = .ok (.sipush 152, 3) := by decide +kernel
theorem dX12_term_130 : decode cX12_term 130 = .ok (.iload 6, 2) := by decide +kernel
theorem dX12_term_132 : decode cX12_term 132 = .ok (.iadd, 1) := by decide +kernel
theorem dX12_term_133 : decode cX12_term 133 = .ok (.iconst 0, 1) := by decide +kernel
theorem dX12_term_134 : decode cX12_term 134 = .ok (.iastore, 1) := by decide +kernel
theorem dX12_term_135 : decode cX12_term 135 = .ok (.aload_n 0, 1) := by decide +kernel
theorem dX12_term_136 : decode cX12_term 136 = .ok (.invokevirtual 123, 3) := by decide +kernel
theorem dX12_term_139 : decode cX12_term 139 = .ok (.iload 6, 2) := by decide +kernel
theorem dX12_term_141 : decode cX12_term 141 = .ok (.ireturn, 1) := by decide +kernel
theorem dX12_alike_0 : decode cX12_alike 0 = .ok (.aload_n 0, 1) := by decide +kernel
theorem dX12_alike_1 : decode cX12_alike 1 = .ok (.iload_n 1, 1) := by decide +kernel
theorem dX12_alike_2 : decode cX12_alike 2 = .ok (.invokevirtual 109, 3) := by decide +kernel
theorem dX12_alike_5 : decode cX12_alike 5 = .ok (.ifCond .eq 11, 3) := by decide +kernel
theorem dX12_alike_8 : decode cX12_alike 8 = .ok (.aload_n 0, 1) := by decide +kernel
theorem dX12_alike_9 : decode cX12_alike 9 = .ok (.iload_n 2, 1) := by decide +kernel
theorem dX12_alike_10 : decode cX12_alike 10 = .ok (.invokevirtual 109, 3) := by decide +kernel
theorem dX12_alike_13 : decode cX12_alike 13 = .ok (.ifCond .ne 10, 3) := by decide +kernel
theorem dX12_alike_16 : decode cX12_alike 16 = .ok (.aload_n 0, 1) := by decide +kernel
theorem dX12_alike_17 : decode cX12_alike 17 = .ok (.bipush (-2), 2) := by decide +kernel
theorem dX12_alike_19 : decode cX12_alike 19 = .ok (.invokevirtual 113, 3) := by decide +kernel
theorem dX12_alike_22 : decode cX12_alike 22 = .ok (.ireturn, 1) := by decide +kernel
theorem dX12_alike_23 : decode cX12_alike 23 = .ok (.aload_n 0, 1) := by decide +kernel
theorem dX12_alike_24 : decode cX12_alike 24 = .ok (.invokevirtual 116, 3) := by decide +kernel
theorem dX12_alike_27 : decode cX12_alike 27 = .ok (.aload_n 0, 1) := by decide +kernel
theorem dX12_alike_28 : decode cX12_alike 28 = .ok (.aload_n 0, 1) := by decide +kernel
theorem dX12_alike_29 : decode cX12_alike 29 = .ok (.getfield 7, 3) := by decide +kernel
theorem dX12_alike_32 : decode cX12_alike 32 = .ok (.iconst 0, 1) := by decide +kernel
theorem dX12_alike_33 : decode cX12_alike 33 = .ok (.iaload, 1) := by decide +kernel
theorem dX12_alike_34 : decode cX12_alike 34 = .ok (.invokevirtual 126, 3) := by decide +kernel
theorem dX12_alike_37 : decode cX12_alike 37 = .ok (.istore_n 3, 1) := by decide +kernel
theorem dX12_alike_38 : decode cX12_alike 38 = .ok (.aload_n 0, 1) := by decide +kernel
theorem dX12_alike_39 : decode cX12_alike 39 = .ok (.iload_n 1, 1) := by decide +kernel
theorem dX12_alike_40 : decode cX12_alike 40 = .ok (.iload_n 2, 1) := by decide +kernel
theorem dX12_alike_41 : decode cX12_alike 41 = .ok (.invokevirtual 103, 3) := by decide +kernel
theorem dX12_alike_44 : decode cX12_alike 44 = .ok (.pop, 1) := by decide +kernel
theorem dX12_alike_45 : decode cX12_alike 45 = .ok (.aload_n 0, 1) := by decide +kernel
theorem dX12_alike_46 : decode cX12_alike 46 = .ok (.invokevirtual 123, 3) := by decide +kernel
theorem dX12_alike_49 : decode cX12_alike 49 = .ok (.iload_n 3, 1) := by decide +kernel
theorem dX12_alike_50 : decode cX12_alike 50 = .ok (.aload_n 0, 1) := by decide +kernel
theorem dX12_alike_51 : decode cX12_alike 51 = .ok (.aload_n 0, 1) := by decide +kernel
theorem dX12_alike_52 : decode cX12_alike 52 = .ok (.getfield 7, 3) := by decide +kernel
theorem dX12_alike_55 : decode cX12_alike 55 = .ok (.iconst 0, 1) := by decide +kernel
theorem dX12_alike_56 : decode cX12_alike 56 = .ok (.iaload, 1) := by decide +kernel
theorem dX12_alike_57 : decode cX12_alike 57 = .ok (.invokevirtual 126, 3) := by decide +kernel
theorem dX12_alike_60 : decode cX12_alike 60 = .ok (.isub, 1) := by decide +kernel
theorem dX12_alike_61 : decode cX12_alike 61 = .ok (.ireturn, 1) := by decide +kernel
theorem dX12_anew_0 : decode cX12_anew 0 = .ok (.aload_n 0, 1) := by decide +kernel
theorem dX12_anew_1 : decode cX12_anew 1 = .ok (.invokevirtual 116, 3) := by decide +kernel
theorem dX12_anew_4 : decode cX12_anew 4 = .ok (.aload_n 0, 1) := by decide +kernel
theorem dX12_anew_5 : decode cX12_anew 5 = .ok (.getfield 7, 3) := by decide +kernel
theorem dX12_anew_8 : decode cX12_anew 8 = .ok (.iconst 0, 1) := by decide +kernel
theorem dX12_anew_9 : decode cX12_anew 9 = .ok (.iaload, 1) := by decide +kernel
theorem dX12_anew_10 : decode cX12_anew 10 = .ok (.istore_n 1, 1) := by decide +kernel
theorem dX12_anew_11 : decode cX12_anew 11 = .ok (.aload_n 0, 1) := by decide +kernel
theorem dX12_anew_12 : decode cX12_anew 12 = .ok (.getfield 7, 3) := by decide +kernel
theorem dX12_anew_15 : decode cX12_anew 15 = .ok (.iconst 0, 1) := by decide +kernel
theorem dX12_anew_16 : decode cX12_anew 16 = .ok (.iconst 0, 1) := by decide +kernel
theorem dX12_anew_17 : decode cX12_anew 17 = .ok (.iastore, 1) := by decide +kernel
theorem dX12_anew_18 : decode cX12_anew 18 = .ok (.aload_n 0, 1) := by decide +kernel
theorem dX12_anew_19 : decode cX12_anew 19 = .ok (.getfield 7, 3) := by decide +kernel
theorem dX12_anew_22 : decode cX12_anew 22 = .ok (.iconst 1, 1) := by decide +kernel
theorem dX12_anew_23 : decode cX12_anew 23 = .ok (.iconst 0, 1) := by decide +kernel
theorem dX12_anew_24 : decode cX12_anew 24 = .ok (.iastore, 1) := by decide +kernel
theorem dX12_anew_25 : decode cX12_anew 25 = .ok (.iload_n 1, 1) := by decide +kernel
theorem dX12_anew_26 : decode cX12_anew 26 = .ok (.ireturn, 1) := by decide +kernel
theorem dX12_of_0 : decode cX12_of 0 = .ok (.aload_n 0, 1) := by decide +kernel
theorem dX12_of_1 : decode cX12_of 1 = .ok (.iload_n 1, 1) := by decide +kernel
theorem dX12_of_2 : decode cX12_of 2 = .ok (.invokevirtual 109, 3) := by decide +kernel
theorem dX12_of_5 : decode cX12_of 5 = .ok (.ifCond .eq 12, 3) := by decide +kernel
theorem dX12_of_8 : decode cX12_of 8 = .ok (.iload_n 2, 1) := by decide +kernel
theorem dX12_of_9 : decode cX12_of 9 = .ok (.iconst 0, 1) := by decide +kernel
theorem dX12_of_10 : decode cX12_of 10 = .ok (.iconst 4, 1) := by decide +kernel
theorem dX12_of_11 : decode cX12_of 11 = .ok (.invokestatic 79, 3) := by decide +kernel
theorem dX12_of_14 : decode cX12_of 14 = .ok (.ifCond .ne 10, 3) := by decide +kernel
theorem dX12_of_17 : decode cX12_of 17 = .ok (.aload_n 0, 1) := by decide +kernel
theorem dX12_of_18 : decode cX12_of 18 = .ok (.bipush (-2), 2) := by decide +kernel
theorem dX12_of_20 : decode cX12_of 20 = .ok (.invokevirtual 113, 3) := by decide +kernel
theorem dX12_of_23 : decode cX12_of 23 = .ok (.ireturn, 1) := by decide +kernel
theorem dX12_of_24 : decode cX12_of 24 = .ok (.aload_n 0, 1) := by decide +kernel
theorem dX12_of_25 : decode cX12_of 25 = .ok (.getfield 7, 3) := by decide +kernel
theorem dX12_of_28 : decode cX12_of 28 = .ok (.iconst 2, 1) := by decide +kernel
theorem dX12_of_29 : decode cX12_of 29 = .ok (.bipush 50, 2) := by decide +kernel
theorem dX12_of_31 : decode cX12_of 31 = .ok (.iload_n 2, 1) := by decide +kernel
theorem dX12_of_32 : decode cX12_of 32 = .ok (.imul, 1) := by decide +kernel
theorem dX12_of_33 : decode cX12_of 33 = .ok (.iadd, 1) := by decide +kernel
theorem dX12_of_34 : decode cX12_of 34 = .ok (.iload_n 1, 1) := by decide +kernel
theorem dX12_of_35 : decode cX12_of 35 = .ok (.iadd, 1) := by decide +kernel
theorem dX12_of_36 : decode cX12_of 36 = .ok (.iaload, 1) := by decide +kernel
theorem dX12_of_37 : decode cX12_of 37 = .ok (.ireturn, 1) := by decide +kernel
theorem dX12_same_0 : decode cX12_same 0 = .ok (.aload_n 0, 1) := by decide +kernel
theorem dX12_same_1 : decode cX12_same 1 = .ok (.iload_n 1, 1) := by decide +kernel
theorem dX12_same_2 : decode cX12_same 2 = .ok (.invokevirtual 109, 3) := by decide +kernel
theorem dX12_same_5 : decode cX12_same 5 = .ok (.ifCond .eq 32, 3) := by decide +kernel
theorem dX12_same_8 : decode cX12_same 8 = .ok (.aload_n 0, 1) := by decide +kernel
theorem dX12_same_9 : decode cX12_same 9 = .ok (.iload_n 2, 1) := by decide +kernel
theorem dX12_same_10 : decode cX12_same 10 = .ok (.invokevirtual 109, 3) := by decide +kernel
theorem dX12_same_13 : decode cX12_same 13 = .ok (.ifCond .eq 24, 3) := by decide +kernel
theorem dX12_same_16 : decode cX12_same 16 = .ok (.aload_n 0, 1) := by decide +kernel
theorem dX12_same_17 : decode cX12_same 17 = .ok (.iload_n 1, 1) := by decide +kernel
theorem dX12_same_18 : decode cX12_same 18 = .ok (.invokevirtual 95, 3) := by decide +kernel
theorem dX12_same_21 : decode cX12_same 21 = .ok (.aload_n 0, 1) := by decide +kernel
theorem dX12_same_22 : decode cX12_same 22 = .ok (.iload_n 2, 1) := by decide +kernel
theorem dX12_same_23 : decode cX12_same 23 = .ok (.invokevirtual 95, 3) := by decide +kernel
theorem dX12_same_26 : decode cX12_same 26 = .ok (.if_icmp .ne 7, 3) := by decide +kernel
theorem dX12_same_29 : decode cX12_same 29 = .ok (.iconst 1, 1) := by decide +kernel
theorem dX12_same_30 : decode cX12_same 30 = .ok (.goto 13, 3) := by decide +kernel
theorem dX12_same_33 : decode cX12_same 33 = .ok (.iconst 0, 1) := by decide +kernel
theorem dX12_same_34 : decode cX12_same 34 = .ok (.goto 9, 3) := by decide +kernel
theorem dX12_same_37 : decode cX12_same 37 = .ok (.aload_n 0, 1) := by decide +kernel
theorem dX12_same_38 : decode cX12_same 38 = .ok (.bipush (-2), 2) := by decide +kernel
theorem dX12_same_40 : decode cX12_same 40 = .ok (.invokevirtual 113, 3) := by decide +kernel
theorem dX12_same_43 : decode cX12_same 43 = .ok (.ireturn, 1) := by decide +kernel
theorem dX12_classes_0 : decode cX12_classes 0 = .ok (.aload_n 0, 1) := by decide +kernel
theorem dX12_classes_1 : decode cX12_classes 1 = .ok (.aload_n 0, 1) := by decide +kernel
theorem dX12_classes_2 : decode cX12_classes 2 = .ok (.getfield 7, 3) := by decide +kernel
theorem dX12_classes_5 : decode cX12_classes 5 = .ok (.iconst 0, 1) := by decide +kernel
theorem dX12_classes_6 : decode cX12_classes 6 = .ok (.iaload, 1) := by decide +kernel
theorem dX12_classes_7 : decode cX12_classes 7 = .ok (.invokevirtual 126, 3) := by decide +kernel
theorem dX12_classes_10 : decode cX12_classes 10 = .ok (.ireturn, 1) := by decide +kernel
theorem dX12_costOf_0 : decode cX12_costOf 0 = .ok (.iconst 0, 1) := by decide +kernel
theorem dX12_costOf_1 : decode cX12_costOf 1 = .ok (.istore_n 2, 1) := by decide +kernel
theorem dX12_costOf_2 : decode cX12_costOf 2 = .ok (.iload_n 2, 1) := by decide +kernel
theorem dX12_costOf_3 : decode cX12_costOf 3 = .ok (.aload_n 0, 1) := by decide +kernel
theorem dX12_costOf_4 : decode cX12_costOf 4 = .ok (.getfield 7, 3) := by decide +kernel
theorem dX12_costOf_7 : decode cX12_costOf 7 = .ok (.iconst 0, 1) := by decide +kernel
theorem dX12_costOf_8 : decode cX12_costOf 8 = .ok (.iaload, 1) := by decide +kernel
theorem dX12_costOf_9 : decode cX12_costOf 9 = .ok (.if_icmp .ge 17, 3) := by decide +kernel
theorem dX12_costOf_12 : decode cX12_costOf 12 = .ok (.aload_n 0, 1) := by decide +kernel
theorem dX12_costOf_13 : decode cX12_costOf 13 = .ok (.getfield 73, 3) := by decide +kernel
theorem dX12_costOf_16 : decode cX12_costOf 16 = .ok (.iload_n 2, 1) := by decide +kernel
theorem dX12_costOf_17 : decode cX12_costOf 17 = .ok (.ldc 129, 2) := by decide +kernel
theorem dX12_costOf_19 : decode cX12_costOf 19 = .ok (.iastore, 1) := by decide +kernel
theorem dX12_costOf_20 : decode cX12_costOf 20 = .ok (.iinc 2 1, 3) := by decide +kernel
theorem dX12_costOf_23 : decode cX12_costOf 23 = .ok (.goto (-21), 3) := by decide +kernel
theorem dX12_costOf_26 : decode cX12_costOf 26 = .ok (.iconst 0, 1) := by decide +kernel
theorem dX12_costOf_27 : decode cX12_costOf 27 = .ok (.istore_n 2, 1) := by decide +kernel
theorem dX12_costOf_28 : decode cX12_costOf 28 = .ok (.iload_n 2, 1) := by decide +kernel
theorem dX12_costOf_29 : decode cX12_costOf 29 = .ok (.aload_n 0, 1) := by decide +kernel
theorem dX12_costOf_30 : decode cX12_costOf 30 = .ok (.getfield 7, 3) := by decide +kernel
theorem dX12_costOf_33 : decode cX12_costOf 33 = .ok (.iconst 0, 1) := by decide +kernel
theorem dX12_costOf_34 : decode cX12_costOf 34 = .ok (.iaload, 1) := by decide +kernel
theorem dX12_costOf_35 : decode cX12_costOf 35 = .ok (.if_icmp .ge 140, 3) := by decide +kernel
theorem dX12_costOf_38 : decode cX12_costOf 38 = .ok (.iconst 0, 1) := by decide +kernel
theorem dX12_costOf_39 : decode cX12_costOf 39 = .ok (.istore_n 3, 1) := by decide +kernel
theorem dX12_costOf_40 : decode cX12_costOf 40 = .ok (.iload_n 3, 1) := by decide +kernel
theorem dX12_costOf_41 : decode cX12_costOf 41 = .ok (.aload_n 0, 1) := by decide +kernel
theorem dX12_costOf_42 : decode cX12_costOf 42 = .ok (.getfield 7, 3) := by decide +kernel
theorem dX12_costOf_45 : decode cX12_costOf 45 = .ok (.iconst 0, 1) := by decide +kernel
theorem dX12_costOf_46 : decode cX12_costOf 46 = .ok (.iaload, 1) := by decide +kernel
theorem dX12_costOf_47 : decode cX12_costOf 47 = .ok (.if_icmp .ge 122, 3) := by decide +kernel
theorem dX12_costOf_50 : decode cX12_costOf 50 = .ok (.iconst 1, 1) := by decide +kernel
theorem dX12_costOf_51 : decode cX12_costOf 51 = .ok (.aload_n 0, 1) := by decide +kernel
theorem dX12_costOf_52 : decode cX12_costOf 52 = .ok (.getfield 7, 3) := by decide +kernel
theorem dX12_costOf_55 : decode cX12_costOf 55 = .ok (.bipush 52, 2) := by decide +kernel
theorem dX12_costOf_57 : decode cX12_costOf 57 = .ok (.iload_n 3, 1) := by decide +kernel
theorem dX12_costOf_58 : decode cX12_costOf 58 = .ok (.iadd, 1) := by decide +kernel
theorem dX12_costOf_59 : decode cX12_costOf 59 = .ok (.iaload, 1) := by decide +kernel
theorem dX12_costOf_60 : decode cX12_costOf 60 = .ok (.ifCond .ge 7, 3) := by decide +kernel
theorem dX12_costOf_63 : decode cX12_costOf 63 = .ok (.iconst 0, 1) := by decide +kernel
theorem dX12_costOf_64 : decode cX12_costOf 64 = .ok (.goto 21, 3) := by decide +kernel
theorem dX12_costOf_67 : decode cX12_costOf 67 = .ok (.aload_n 0, 1) := by decide +kernel
theorem dX12_costOf_68 : decode cX12_costOf 68 = .ok (.getfield 73, 3) := by decide +kernel
theorem dX12_costOf_71 : decode cX12_costOf 71 = .ok (.aload_n 0, 1) := by decide +kernel
theorem dX12_costOf_72 : decode cX12_costOf 72 = .ok (.aload_n 0, 1) := by decide +kernel
theorem dX12_costOf_73 : decode cX12_costOf 73 = .ok (.getfield 7, 3) := by decide +kernel
theorem dX12_costOf_76 : decode cX12_costOf 76 = .ok (.bipush 52, 2) := by decide +kernel
theorem dX12_costOf_78 : decode cX12_costOf 78 = .ok (.iload_n 3, 1) := by decide +kernel
theorem dX12_costOf_79 : decode cX12_costOf 79 = .ok (.iadd, 1) := by decide +kernel
theorem dX12_costOf_80 : decode cX12_costOf 80 = .ok (.iaload, 1) := by decide +kernel
theorem dX12_costOf_81 : decode cX12_costOf 81 = .ok (.invokevirtual 95, 3) := by decide +kernel
theorem dX12_costOf_84 : decode cX12_costOf 84 = .ok (.iaload, 1) := by decide +kernel
theorem dX12_costOf_85 : decode cX12_costOf 85 = .ok (.iadd, 1) := by decide +kernel
theorem dX12_costOf_86 : decode cX12_costOf 86 = .ok (.aload_n 0, 1) := by decide +kernel
theorem dX12_costOf_87 : decode cX12_costOf 87 = .ok (.getfield 7, 3) := by decide +kernel
theorem dX12_costOf_90 : decode cX12_costOf 90 = .ok (.bipush 102, 2) := by decide +kernel
theorem dX12_costOf_92 : decode cX12_costOf 92 = .ok (.iload_n 3, 1) := by decide +kernel
theorem dX12_costOf_93 : decode cX12_costOf 93 = .ok (.iadd, 1) := by decide +kernel
theorem dX12_costOf_94 : decode cX12_costOf 94 = .ok (.iaload, 1) := by decide +kernel
theorem dX12_costOf_95 : decode cX12_costOf 95 = .ok (.ifCond .ge 7, 3) := by decide +kernel
theorem dX12_costOf_98 : decode cX12_costOf 98 = .ok (.iconst 0, 1) := by decide +kernel
theorem dX12_costOf_99 : decode cX12_costOf 99 = .ok (.goto 21, 3) := by decide +kernel
theorem dX12_costOf_102 : decode cX12_costOf 102 = .ok (.aload_n 0, 1) := by decide +kernel
theorem dX12_costOf_103 : decode cX12_costOf 103 = .ok (.getfield 73, 3) := by decide +kernel
theorem dX12_costOf_106 : decode cX12_costOf 106 = .ok (.aload_n 0, 1) := by decide +kernel
theorem dX12_costOf_107 : decode cX12_costOf 107 = .ok (.aload_n 0, 1) := by decide +kernel
theorem dX12_costOf_108 : decode cX12_costOf 108 = .ok (.getfield 7, 3) := by decide +kernel
theorem dX12_costOf_111 : decode cX12_costOf 111 = .ok (.bipush 102, 2) := by decide +kernel
theorem dX12_costOf_113 : decode cX12_costOf 113 = .ok (.iload_n 3, 1) := by decide +kernel
theorem dX12_costOf_114 : decode cX12_costOf 114 = .ok (.iadd, 1) := by decide +kernel
theorem dX12_costOf_115 : decode cX12_costOf 115 = .ok (.iaload, 1) := by decide +kernel
theorem dX12_costOf_116 : decode cX12_costOf 116 = .ok (.invokevirtual 95, 3) := by decide +kernel
theorem dX12_costOf_119 : decode cX12_costOf 119 = .ok (.iaload, 1) := by decide +kernel
theorem dX12_costOf_120 : decode cX12_costOf 120 = .ok (.iadd, 1) := by decide +kernel
theorem dX12_costOf_121 : decode cX12_costOf 121 = .ok (.istore 4, 2) := by decide +kernel
theorem dX12_costOf_123 : decode cX12_costOf 123 = .ok (.aload_n 0, 1) := by decide +kernel
theorem dX12_costOf_124 : decode cX12_costOf 124 = .ok (.getfield 73, 3) := by decide +kernel
theorem dX12_costOf_127 : decode cX12_costOf 127 = .ok (.aload_n 0, 1) := by decide +kernel
theorem dX12_costOf_128 : decode cX12_costOf 128 = .ok (.iload_n 3, 1) := by decide +kernel
theorem dX12_costOf_129 : decode cX12_costOf 129 = .ok (.invokevirtual 95, 3) := by decide +kernel
theorem dX12_costOf_132 : decode cX12_costOf 132 = .ok (.iload 4, 2) := by decide +kernel
theorem dX12_costOf_134 : decode cX12_costOf 134 = .ok (.aload_n 0, 1) := by decide +kernel
theorem dX12_costOf_135 : decode cX12_costOf 135 = .ok (.getfield 73, 3) := by decide +kernel
theorem dX12_costOf_138 : decode cX12_costOf 138 = .ok (.aload_n 0, 1) := by decide +kernel
theorem dX12_costOf_139 : decode cX12_costOf 139 = .ok (.iload_n 3, 1) := by decide +kernel
theorem dX12_costOf_140 : decode cX12_costOf 140 = .ok (.invokevirtual 95, 3) := by decide +kernel
theorem dX12_costOf_143 : decode cX12_costOf 143 = .ok (.iaload, 1) := by decide +kernel
theorem dX12_costOf_144 : decode cX12_costOf 144 = .ok (.if_icmp .ge 8, 3) := by decide +kernel
theorem dX12_costOf_147 : decode cX12_costOf 147 = .ok (.iload 4, 2) := by decide +kernel
theorem dX12_costOf_149 : decode cX12_costOf 149 = .ok (.goto 13, 3) := by decide +kernel
theorem dX12_costOf_152 : decode cX12_costOf 152 = .ok (.aload_n 0, 1) := by decide +kernel
theorem dX12_costOf_153 : decode cX12_costOf 153 = .ok (.getfield 73, 3) := by decide +kernel
theorem dX12_costOf_156 : decode cX12_costOf 156 = .ok (.aload_n 0, 1) := by decide +kernel
theorem dX12_costOf_157 : decode cX12_costOf 157 = .ok (.iload_n 3, 1) := by decide +kernel
theorem dX12_costOf_158 : decode cX12_costOf 158 = .ok (.invokevirtual 95, 3) := by decide +kernel
theorem dX12_costOf_161 : decode cX12_costOf 161 = .ok (.iaload, 1) := by decide +kernel
theorem dX12_costOf_162 : decode cX12_costOf 162 = .ok (.iastore, 1) := by decide +kernel
theorem dX12_costOf_163 : decode cX12_costOf 163 = .ok (.iinc 3 1, 3) := by decide +kernel
theorem dX12_costOf_166 : decode cX12_costOf 166 = .ok (.goto (-126), 3) := by decide +kernel
theorem dX12_costOf_169 : decode cX12_costOf 169 = .ok (.iinc 2 1, 3) := by decide +kernel
theorem dX12_costOf_172 : decode cX12_costOf 172 = .ok (.goto (-144), 3) := by decide +kernel
theorem dX12_costOf_175 : decode cX12_costOf 175 = .ok (.aload_n 0, 1) := by decide +kernel
theorem dX12_costOf_176 : decode cX12_costOf 176 = .ok (.getfield 73, 3) := by decide +kernel
theorem dX12_costOf_179 : decode cX12_costOf 179 = .ok (.aload_n 0, 1) := by decide +kernel
theorem dX12_costOf_180 : decode cX12_costOf 180 = .ok (.iload_n 1, 1) := by decide +kernel
theorem dX12_costOf_181 : decode cX12_costOf 181 = .ok (.invokevirtual 95, 3) := by decide +kernel
theorem dX12_costOf_184 : decode cX12_costOf 184 = .ok (.iaload, 1) := by decide +kernel
theorem dX12_costOf_185 : decode cX12_costOf 185 = .ok (.ireturn, 1) := by decide +kernel
theorem dX12_about_0 : decode cX12_about 0 = .ok (.aload_n 0, 1) := by decide +kernel
theorem dX12_about_1 : decode cX12_about 1 = .ok (.iload_n 1, 1) := by decide +kernel
theorem dX12_about_2 : decode cX12_about 2 = .ok (.invokevirtual 109, 3) := by decide +kernel
theorem dX12_about_5 : decode cX12_about 5 = .ok (.ifCond .eq 12, 3) := by decide +kernel
theorem dX12_about_8 : decode cX12_about 8 = .ok (.iload_n 2, 1) := by decide +kernel
theorem dX12_about_9 : decode cX12_about 9 = .ok (.iconst 0, 1) := by decide +kernel
theorem dX12_about_10 : decode cX12_about 10 = .ok (.iconst 3, 1) := by decide +kernel
theorem dX12_about_11 : decode cX12_about 11 = .ok (.invokestatic 79, 3) := by decide +kernel
theorem dX12_about_14 : decode cX12_about 14 = .ok (.ifCond .ne 10, 3) := by decide +kernel
theorem dX12_about_17 : decode cX12_about 17 = .ok (.aload_n 0, 1) := by decide +kernel
theorem dX12_about_18 : decode cX12_about 18 = .ok (.bipush (-2), 2) := by decide +kernel
theorem dX12_about_20 : decode cX12_about 20 = .ok (.invokevirtual 113, 3) := by decide +kernel
theorem dX12_about_23 : decode cX12_about 23 = .ok (.ireturn, 1) := by decide +kernel
theorem dX12_about_24 : decode cX12_about 24 = .ok (.iload_n 2, 1) := by decide +kernel
theorem dX12_about_25 : decode cX12_about 25 = .ok (.iconst 2, 1) := by decide +kernel
theorem dX12_about_26 : decode cX12_about 26 = .ok (.if_icmp .ne 9, 3) := by decide +kernel
theorem dX12_about_29 : decode cX12_about 29 = .ok (.aload_n 0, 1) := by decide +kernel
theorem dX12_about_30 : decode cX12_about 30 = .ok (.iload_n 1, 1) := by decide +kernel
theorem dX12_about_31 : decode cX12_about 31 = .ok (.invokevirtual 130, 3) := by decide +kernel
theorem dX12_about_34 : decode cX12_about 34 = .ok (.ireturn, 1) := by decide +kernel
theorem dX12_about_35 : decode cX12_about 35 = .ok (.iconst 0, 1) := by decide +kernel
theorem dX12_about_36 : decode cX12_about 36 = .ok (.istore_n 3, 1) := by decide +kernel
theorem dX12_about_37 : decode cX12_about 37 = .ok (.bipush 99, 2) := by decide +kernel
theorem dX12_about_39 : decode cX12_about 39 = .ok (.istore 4, 2) := by decide +kernel
theorem dX12_about_41 : decode cX12_about 41 = .ok (.iconst 0, 1) := by decide +kernel
theorem dX12_about_42 : decode cX12_about 42 = .ok (.istore 5, 2) := by decide +kernel
theorem dX12_about_44 : decode cX12_about 44 = .ok (.iconst 0, 1) := by decide +kernel
theorem dX12_about_45 : decode cX12_about 45 = .ok (.istore 6, 2) := by decide +kernel
theorem dX12_about_47 : decode cX12_about 47 = .ok (.iload 6, 2) := by decide +kernel
theorem dX12_about_49 : decode cX12_about 49 = .ok (.aload_n 0, 1) := by decide +kernel
theorem dX12_about_50 : decode cX12_about 50 = .ok (.getfield 7, 3) := by decide +kernel
theorem dX12_about_53 : decode cX12_about 53 = .ok (.iconst 0, 1) := by decide +kernel
theorem dX12_about_54 : decode cX12_about 54 = .ok (.iaload, 1) := by decide +kernel
theorem dX12_about_55 : decode cX12_about 55 = .ok (.if_icmp .ge 162, 3) := by decide +kernel
theorem dX12_about_58 : decode cX12_about 58 = .ok (.aload_n 0, 1) := by decide +kernel
theorem dX12_about_59 : decode cX12_about 59 = .ok (.iload 6, 2) := by decide +kernel
theorem dX12_about_61 : decode cX12_about 61 = .ok (.invokevirtual 95, 3) := by decide +kernel
theorem dX12_about_64 : decode cX12_about 64 = .ok (.aload_n 0, 1) := by decide +kernel
theorem dX12_about_65 : decode cX12_about 65 = .ok (.iload_n 1, 1) := by decide +kernel
theorem dX12_about_66 : decode cX12_about 66 = .ok (.invokevirtual 95, 3) := by decide +kernel
theorem dX12_about_69 : decode cX12_about 69 = .ok (.if_icmp .ne 7, 3) := by decide +kernel
theorem dX12_about_72 : decode cX12_about 72 = .ok (.iconst 1, 1) := by decide +kernel
theorem dX12_about_73 : decode cX12_about 73 = .ok (.goto 4, 3) := by decide +kernel
theorem dX12_about_76 : decode cX12_about 76 = .ok (.iconst 0, 1) := by decide +kernel
theorem dX12_about_77 : decode cX12_about 77 = .ok (.istore 7, 2) := by decide +kernel
theorem dX12_about_79 : decode cX12_about 79 = .ok (.iload_n 3, 1) := by decide +kernel
theorem dX12_about_80 : decode cX12_about 80 = .ok (.iload 7, 2) := by decide +kernel
theorem dX12_about_82 : decode cX12_about 82 = .ok (.ifCond .eq 7, 3) := by decide +kernel
theorem dX12_about_85 : decode cX12_about 85 = .ok (.iconst 1, 1) := by decide +kernel
theorem dX12_about_86 : decode cX12_about 86 = .ok (.goto 4, 3) := by decide +kernel
theorem dX12_about_89 : decode cX12_about 89 = .ok (.iconst 0, 1) := by decide +kernel
theorem dX12_about_90 : decode cX12_about 90 = .ok (.iadd, 1) := by decide +kernel
theorem dX12_about_91 : decode cX12_about 91 = .ok (.istore_n 3, 1) := by decide +kernel
theorem dX12_about_92 : decode cX12_about 92 = .ok (.iload 7, 2) := by decide +kernel
theorem dX12_about_94 : decode cX12_about 94 = .ok (.ifCond .eq 33, 3) := by decide +kernel
theorem dX12_about_97 : decode cX12_about 97 = .ok (.aload_n 0, 1) := by decide +kernel
theorem dX12_about_98 : decode cX12_about 98 = .ok (.getfield 7, 3) := by decide +kernel
theorem dX12_about_101 : decode cX12_about 101 = .ok (.sipush 152, 3) := by decide +kernel
theorem dX12_about_104 : decode cX12_about 104 = .ok (.iload 6, 2) := by decide +kernel
theorem dX12_about_106 : decode cX12_about 106 = .ok (.iadd, 1) := by decide +kernel
theorem dX12_about_107 : decode cX12_about 107 = .ok (.iaload, 1) := by decide +kernel
theorem dX12_about_108 : decode cX12_about 108 = .ok (.iload 4, 2) := by decide +kernel
theorem dX12_about_110 : decode cX12_about 110 = .ok (.if_icmp .ge 17, 3) := by decide +kernel
theorem dX12_about_113 : decode cX12_about 113 = .ok (.aload_n 0, 1) := by decide +kernel
theorem dX12_about_114 : decode cX12_about 114 = .ok (.getfield 7, 3) := by decide +kernel
theorem dX12_about_117 : decode cX12_about 117 = .ok (.sipush 152, 3) := by decide +kernel
theorem dX12_about_120 : decode cX12_about 120 = .ok (.iload 6, 2) := by decide +kernel
theorem dX12_about_122 : decode cX12_about 122 = .ok (.iadd, 1) := by decide +kernel
theorem dX12_about_123 : decode cX12_about 123 = .ok (.iaload, 1) := by decide +kernel
theorem dX12_about_124 : decode cX12_about 124 = .ok (.goto 5, 3) := by decide +kernel
theorem dX12_about_127 : decode cX12_about 127 = .ok (.iload 4, 2) := by decide +kernel
theorem dX12_about_129 : decode cX12_about 129 = .ok (.istore 4, 2) := by decide +kernel
theorem dX12_about_131 : decode cX12_about 131 = .ok (.iload 5, 2) := by decide +kernel
theorem dX12_about_133 : decode cX12_about 133 = .ok (.aload_n 0, 1) := by decide +kernel
theorem dX12_about_134 : decode cX12_about 134 = .ok (.getfield 7, 3) := by decide +kernel
theorem dX12_about_137 : decode cX12_about 137 = .ok (.bipush 52, 2) := by decide +kernel
theorem dX12_about_139 : decode cX12_about 139 = .ok (.iload 6, 2) := by decide +kernel
theorem dX12_about_141 : decode cX12_about 141 = .ok (.iadd, 1) := by decide +kernel
theorem dX12_about_142 : decode cX12_about 142 = .ok (.iaload, 1) := by decide +kernel
theorem dX12_about_143 : decode cX12_about 143 = .ok (.ifCond .lt 25, 3) := by decide +kernel
theorem dX12_about_146 : decode cX12_about 146 = .ok (.aload_n 0, 1) := by decide +kernel
theorem dX12_about_147 : decode cX12_about 147 = .ok (.aload_n 0, 1) := by decide +kernel
theorem dX12_about_148 : decode cX12_about 148 = .ok (.getfield 7, 3) := by decide +kernel
theorem dX12_about_151 : decode cX12_about 151 = .ok (.bipush 52, 2) := by decide +kernel
theorem dX12_about_153 : decode cX12_about 153 = .ok (.iload 6, 2) := by decide +kernel
theorem dX12_about_155 : decode cX12_about 155 = .ok (.iadd, 1) := by decide +kernel
theorem dX12_about_156 : decode cX12_about 156 = .ok (.iaload, 1) := by decide +kernel
theorem dX12_about_157 : decode cX12_about 157 = .ok (.invokevirtual 95, 3) := by decide +kernel
theorem dX12_about_160 : decode cX12_about 160 = .ok (.aload_n 0, 1) := by decide +kernel
theorem dX12_about_161 : decode cX12_about 161 = .ok (.iload_n 1, 1) := by decide +kernel
theorem dX12_about_162 : decode cX12_about 162 = .ok (.invokevirtual 95, 3) := by decide +kernel
theorem dX12_about_165 : decode cX12_about 165 = .ok (.if_icmp .eq 38, 3) := by decide +kernel
theorem dX12_about_168 : decode cX12_about 168 = .ok (.aload_n 0, 1) := by decide +kernel
theorem dX12_about_169 : decode cX12_about 169 = .ok (.getfield 7, 3) := by decide +kernel
theorem dX12_about_172 : decode cX12_about 172 = .ok (.bipush 102, 2) := by decide +kernel
theorem dX12_about_174 : decode cX12_about 174 = .ok (.iload 6, 2) := by decide +kernel
theorem dX12_about_176 : decode cX12_about 176 = .ok (.iadd, 1) := by decide +kernel
theorem dX12_about_177 : decode cX12_about 177 = .ok (.iaload, 1) := by decide +kernel
theorem dX12_about_178 : decode cX12_about 178 = .ok (.ifCond .lt 29, 3) := by decide +kernel
theorem dX12_about_181 : decode cX12_about 181 = .ok (.aload_n 0, 1) := by decide +kernel
theorem dX12_about_182 : decode cX12_about 182 = .ok (.aload_n 0, 1) := by decide +kernel
theorem dX12_about_183 : decode cX12_about 183 = .ok (.getfield 7, 3) := by decide +kernel
theorem dX12_about_186 : decode cX12_about 186 = .ok (.bipush 102, 2) := by decide +kernel
theorem dX12_about_188 : decode cX12_about 188 = .ok (.iload 6, 2) := by decide +kernel
theorem dX12_about_190 : decode cX12_about 190 = .ok (.iadd, 1) := by decide +kernel
theorem dX12_about_191 : decode cX12_about 191 = .ok (.iaload, 1) := by decide +kernel
theorem dX12_about_192 : decode cX12_about 192 = .ok (.invokevirtual 95, 3) := by decide +kernel
theorem dX12_about_195 : decode cX12_about 195 = .ok (.aload_n 0, 1) := by decide +kernel
theorem dX12_about_196 : decode cX12_about 196 = .ok (.iload_n 1, 1) := by decide +kernel
theorem dX12_about_197 : decode cX12_about 197 = .ok (.invokevirtual 95, 3) := by decide +kernel
theorem dX12_about_200 : decode cX12_about 200 = .ok (.if_icmp .ne 7, 3) := by decide +kernel
theorem dX12_about_203 : decode cX12_about 203 = .ok (.iconst 1, 1) := by decide +kernel
theorem dX12_about_204 : decode cX12_about 204 = .ok (.goto 4, 3) := by decide +kernel
theorem dX12_about_207 : decode cX12_about 207 = .ok (.iconst 0, 1) := by decide +kernel
theorem dX12_about_208 : decode cX12_about 208 = .ok (.iadd, 1) := by decide +kernel
theorem dX12_about_209 : decode cX12_about 209 = .ok (.istore 5, 2) := by decide +kernel
theorem dX12_about_211 : decode cX12_about 211 = .ok (.iinc 6 1, 3) := by decide +kernel
theorem dX12_about_214 : decode cX12_about 214 = .ok (.goto (-167), 3) := by decide +kernel
theorem dX12_about_217 : decode cX12_about 217 = .ok (.iload_n 2, 1) := by decide +kernel
theorem dX12_about_218 : decode cX12_about 218 = .ok (.ifCond .ne 7, 3) := by decide +kernel
theorem dX12_about_221 : decode cX12_about 221 = .ok (.iload_n 3, 1) := by decide +kernel
theorem dX12_about_222 : decode cX12_about 222 = .ok (.goto 15, 3) := by decide +kernel
theorem dX12_about_225 : decode cX12_about 225 = .ok (.iload_n 2, 1) := by decide +kernel
theorem dX12_about_226 : decode cX12_about 226 = .ok (.iconst 1, 1) := by decide +kernel
theorem dX12_about_227 : decode cX12_about 227 = .ok (.if_icmp .ne 8, 3) := by decide +kernel
theorem dX12_about_230 : decode cX12_about 230 = .ok (.iload 4, 2) := by decide +kernel
theorem dX12_about_232 : decode cX12_about 232 = .ok (.goto 5, 3) := by decide +kernel
theorem dX12_about_235 : decode cX12_about 235 = .ok (.iload 5, 2) := by decide +kernel
theorem dX12_about_237 : decode cX12_about 237 = .ok (.ireturn, 1) := by decide +kernel
theorem dX12_signAt_0 : decode cX12_signAt 0 = .ok (.aload_n 0, 1) := by decide +kernel
theorem dX12_signAt_1 : decode cX12_signAt 1 = .ok (.getfield 7, 3) := by decide +kernel
theorem dX12_signAt_4 : decode cX12_signAt 4 = .ok (.sipush 264, 3) := by decide +kernel
theorem dX12_signAt_7 : decode cX12_signAt 7 = .ok (.bipush 120, 2) := by decide +kernel
theorem dX12_signAt_9 : decode cX12_signAt 9 = .ok (.iload_n 1, 1) := by decide +kernel
theorem dX12_signAt_10 : decode cX12_signAt 10 = .ok (.imul, 1) := by decide +kernel
theorem dX12_signAt_11 : decode cX12_signAt 11 = .ok (.iadd, 1) := by decide +kernel
theorem dX12_signAt_12 : decode cX12_signAt 12 = .ok (.iload_n 2, 1) := by decide +kernel
theorem dX12_signAt_13 : decode cX12_signAt 13 = .ok (.ifCond .eq 7, 3) := by decide +kernel
theorem dX12_signAt_16 : decode cX12_signAt 16 = .ok (.iconst 0, 1) := by decide +kernel
theorem dX12_signAt_17 : decode cX12_signAt 17 = .ok (.goto 13, 3) := by decide +kernel
theorem dX12_signAt_20 : decode cX12_signAt 20 = .ok (.aload_n 0, 1) := by decide +kernel
theorem dX12_signAt_21 : decode cX12_signAt 21 = .ok (.getfield 7, 3) := by decide +kernel
theorem dX12_signAt_24 : decode cX12_signAt 24 = .ok (.sipush 252, 3) := by decide +kernel
theorem dX12_signAt_27 : decode cX12_signAt 27 = .ok (.iload_n 1, 1) := by decide +kernel
theorem dX12_signAt_28 : decode cX12_signAt 28 = .ok (.iadd, 1) := by decide +kernel
theorem dX12_signAt_29 : decode cX12_signAt 29 = .ok (.iaload, 1) := by decide +kernel
theorem dX12_signAt_30 : decode cX12_signAt 30 = .ok (.iadd, 1) := by decide +kernel
theorem dX12_signAt_31 : decode cX12_signAt 31 = .ok (.iload_n 3, 1) := by decide +kernel
theorem dX12_signAt_32 : decode cX12_signAt 32 = .ok (.iadd, 1) := by decide +kernel
theorem dX12_signAt_33 : decode cX12_signAt 33 = .ok (.iaload, 1) := by decide +kernel
theorem dX12_signAt_34 : decode cX12_signAt 34 = .ok (.ireturn, 1) := by decide +kernel
theorem dX12_sizeOf_0 : decode cX12_sizeOf 0 = .ok (.aload_n 0, 1) := by decide +kernel
theorem dX12_sizeOf_1 : decode cX12_sizeOf 1 = .ok (.getfield 7, 3) := by decide +kernel
theorem dX12_sizeOf_4 : decode cX12_sizeOf 4 = .ok (.iload_n 2, 1) := by decide +kernel
theorem dX12_sizeOf_5 : decode cX12_sizeOf 5 = .ok (.ifCond .eq 9, 3) := by decide +kernel
theorem dX12_sizeOf_8 : decode cX12_sizeOf 8 = .ok (.sipush 252, 3) := by decide +kernel
theorem dX12_sizeOf_11 : decode cX12_sizeOf 11 = .ok (.goto 6, 3) := by decide +kernel
theorem dX12_sizeOf_14 : decode cX12_sizeOf 14 = .ok (.sipush 258, 3) := by decide +kernel
theorem dX12_sizeOf_17 : decode cX12_sizeOf 17 = .ok (.iload_n 1, 1) := by decide +kernel
theorem dX12_sizeOf_18 : decode cX12_sizeOf 18 = .ok (.iadd, 1) := by decide +kernel
theorem dX12_sizeOf_19 : decode cX12_sizeOf 19 = .ok (.iaload, 1) := by decide +kernel
theorem dX12_sizeOf_20 : decode cX12_sizeOf 20 = .ok (.ireturn, 1) := by decide +kernel
theorem dX12_lettersOf_0 : decode cX12_lettersOf 0 = .ok (.iconst 0, 1) := by decide +kernel
theorem dX12_lettersOf_1 : decode cX12_lettersOf 1 = .ok (.istore_n 2, 1) := by decide +kernel
theorem dX12_lettersOf_2 : decode cX12_lettersOf 2 = .ok (.iconst 0, 1) := by decide +kernel
theorem dX12_lettersOf_3 : decode cX12_lettersOf 3 = .ok (.istore_n 3, 1) := by decide +kernel
theorem dX12_lettersOf_4 : decode cX12_lettersOf 4 = .ok (.iload_n 3, 1) := by decide +kernel
theorem dX12_lettersOf_5 : decode cX12_lettersOf 5 = .ok (.aload_n 0, 1) := by decide +kernel
theorem dX12_lettersOf_6 : decode cX12_lettersOf 6 = .ok (.iload_n 1, 1) := by decide +kernel
theorem dX12_lettersOf_7 : decode cX12_lettersOf 7 = .ok (.iconst 1, 1) := by decide +kernel
theorem dX12_lettersOf_8 : decode cX12_lettersOf 8 = .ok (.invokevirtual 133, 3) := by decide +kernel
theorem dX12_lettersOf_11 : decode cX12_lettersOf 11 = .ok (.if_icmp .ge 40, 3) := by decide +kernel
theorem dX12_lettersOf_14 : decode cX12_lettersOf 14 = .ok (.iload_n 2, 1) := by decide +kernel
theorem dX12_lettersOf_15 : decode cX12_lettersOf 15 = .ok (.aload_n 0, 1) := by decide +kernel
theorem dX12_lettersOf_16 : decode cX12_lettersOf 16 = .ok (.iload_n 1, 1) := by decide +kernel
theorem dX12_lettersOf_17 : decode cX12_lettersOf 17 = .ok (.iconst 1, 1) := by decide +kernel
theorem dX12_lettersOf_18 : decode cX12_lettersOf 18 = .ok (.iload_n 3, 1) := by decide +kernel
theorem dX12_lettersOf_19 : decode cX12_lettersOf 19 = .ok (.invokevirtual 137, 3) := by decide +kernel
theorem dX12_lettersOf_22 : decode cX12_lettersOf 22 = .ok (.bipush 7, 2) := by decide +kernel
theorem dX12_lettersOf_24 : decode cX12_lettersOf 24 = .ok (.if_icmp .lt 18, 3) := by decide +kernel
theorem dX12_lettersOf_27 : decode cX12_lettersOf 27 = .ok (.iconst 1, 1) := by decide +kernel
theorem dX12_lettersOf_28 : decode cX12_lettersOf 28 = .ok (.aload_n 0, 1) := by decide +kernel
theorem dX12_lettersOf_29 : decode cX12_lettersOf 29 = .ok (.iload_n 1, 1) := by decide +kernel
theorem dX12_lettersOf_30 : decode cX12_lettersOf 30 = .ok (.iconst 1, 1) := by decide +kernel
theorem dX12_lettersOf_31 : decode cX12_lettersOf 31 = .ok (.iload_n 3, 1) := by decide +kernel
theorem dX12_lettersOf_32 : decode cX12_lettersOf 32 = .ok (.invokevirtual 137, 3) := by decide +kernel
theorem dX12_lettersOf_35 : decode cX12_lettersOf 35 = .ok (.bipush 7, 2) := by decide +kernel
theorem dX12_lettersOf_37 : decode cX12_lettersOf 37 = .ok (.isub, 1) := by decide +kernel
theorem dX12_lettersOf_38 : decode cX12_lettersOf 38 = .ok (.ishl, 1) := by decide +kernel
theorem dX12_lettersOf_39 : decode cX12_lettersOf 39 = .ok (.goto 4, 3) := by decide +kernel
theorem dX12_lettersOf_42 : decode cX12_lettersOf 42 = .ok (.iconst 0, 1) := by decide +kernel
theorem dX12_lettersOf_43 : decode cX12_lettersOf 43 = .ok (.ior, 1) := by decide +kernel
theorem dX12_lettersOf_44 : decode cX12_lettersOf 44 = .ok (.istore_n 2, 1) := by decide +kernel
theorem dX12_lettersOf_45 : decode cX12_lettersOf 45 = .ok (.iinc 3 1, 3) := by decide +kernel
theorem dX12_lettersOf_48 : decode cX12_lettersOf 48 = .ok (.goto (-44), 3) := by decide +kernel
theorem dX12_lettersOf_51 : decode cX12_lettersOf 51 = .ok (.iload_n 2, 1) := by decide +kernel
theorem dX12_lettersOf_52 : decode cX12_lettersOf 52 = .ok (.ireturn, 1) := by decide +kernel
theorem dX12_signsOf_0 : decode cX12_signsOf 0 = .ok (.iconst 0, 1) := by decide +kernel
theorem dX12_signsOf_1 : decode cX12_signsOf 1 = .ok (.istore_n 3, 1) := by decide +kernel
theorem dX12_signsOf_2 : decode cX12_signsOf 2 = .ok (.iconst 0, 1) := by decide +kernel
theorem dX12_signsOf_3 : decode cX12_signsOf 3 = .ok (.istore 4, 2) := by decide +kernel
theorem dX12_signsOf_5 : decode cX12_signsOf 5 = .ok (.iload 4, 2) := by decide +kernel
theorem dX12_signsOf_7 : decode cX12_signsOf 7 = .ok (.aload_n 0, 1) := by decide +kernel
theorem dX12_signsOf_8 : decode cX12_signsOf 8 = .ok (.iload_n 1, 1) := by decide +kernel
theorem dX12_signsOf_9 : decode cX12_signsOf 9 = .ok (.iload_n 2, 1) := by decide +kernel
theorem dX12_signsOf_10 : decode cX12_signsOf 10 = .ok (.invokevirtual 133, 3) := by decide +kernel
theorem dX12_signsOf_13 : decode cX12_signsOf 13 = .ok (.if_icmp .ge 30, 3) := by decide +kernel
theorem dX12_signsOf_16 : decode cX12_signsOf 16 = .ok (.iload_n 3, 1) := by decide +kernel
theorem dX12_signsOf_17 : decode cX12_signsOf 17 = .ok (.aload_n 0, 1) := by decide +kernel
theorem dX12_signsOf_18 : decode cX12_signsOf 18 = .ok (.iload_n 1, 1) := by decide +kernel
theorem dX12_signsOf_19 : decode cX12_signsOf 19 = .ok (.iload_n 2, 1) := by decide +kernel
theorem dX12_signsOf_20 : decode cX12_signsOf 20 = .ok (.iload 4, 2) := by decide +kernel
theorem dX12_signsOf_22 : decode cX12_signsOf 22 = .ok (.invokevirtual 137, 3) := by decide +kernel
theorem dX12_signsOf_25 : decode cX12_signsOf 25 = .ok (.bipush 7, 2) := by decide +kernel
theorem dX12_signsOf_27 : decode cX12_signsOf 27 = .ok (.if_icmp .ge 7, 3) := by decide +kernel
theorem dX12_signsOf_30 : decode cX12_signsOf 30 = .ok (.iconst 1, 1) := by decide +kernel
theorem dX12_signsOf_31 : decode cX12_signsOf 31 = .ok (.goto 4, 3) := by decide +kernel
theorem dX12_signsOf_34 : decode cX12_signsOf 34 = .ok (.iconst 0, 1) := by decide +kernel
theorem dX12_signsOf_35 : decode cX12_signsOf 35 = .ok (.iadd, 1) := by decide +kernel
theorem dX12_signsOf_36 : decode cX12_signsOf 36 = .ok (.istore_n 3, 1) := by decide +kernel
theorem dX12_signsOf_37 : decode cX12_signsOf 37 = .ok (.iinc 4 1, 3) := by decide +kernel
theorem dX12_signsOf_40 : decode cX12_signsOf 40 = .ok (.goto (-35), 3) := by decide +kernel
theorem dX12_signsOf_43 : decode cX12_signsOf 43 = .ok (.iload_n 3, 1) := by decide +kernel
theorem dX12_signsOf_44 : decode cX12_signsOf 44 = .ok (.ireturn, 1) := by decide +kernel
theorem dX12_table_0 : decode cX12_table 0 = .ok (.iconst 0, 1) := by decide +kernel
theorem dX12_table_1 : decode cX12_table 1 = .ok (.istore_n 1, 1) := by decide +kernel
theorem dX12_table_2 : decode cX12_table 2 = .ok (.iload_n 1, 1) := by decide +kernel
theorem dX12_table_3 : decode cX12_table 3 = .ok (.iconst 4, 1) := by decide +kernel
theorem dX12_table_4 : decode cX12_table 4 = .ok (.if_icmp .ge 16, 3) := by decide +kernel
theorem dX12_table_7 : decode cX12_table 7 = .ok (.aload_n 0, 1) := by decide +kernel
theorem dX12_table_8 : decode cX12_table 8 = .ok (.getfield 49, 3) := by decide +kernel
theorem dX12_table_11 : decode cX12_table 11 = .ok (.iload_n 1, 1) := by decide +kernel
theorem dX12_table_12 : decode cX12_table 12 = .ok (.iconst (-1), 1) := by decide +kernel
theorem dX12_table_13 : decode cX12_table 13 = .ok (.iastore, 1) := by decide +kernel
theorem dX12_table_14 : decode cX12_table 14 = .ok (.iinc 1 1, 3) := by decide +kernel
theorem dX12_table_17 : decode cX12_table 17 = .ok (.goto (-15), 3) := by decide +kernel
theorem dX12_table_20 : decode cX12_table 20 = .ok (.iconst 0, 1) := by decide +kernel
theorem dX12_table_21 : decode cX12_table 21 = .ok (.istore_n 1, 1) := by decide +kernel
theorem dX12_table_22 : decode cX12_table 22 = .ok (.iload_n 1, 1) := by decide +kernel
theorem dX12_table_23 : decode cX12_table 23 = .ok (.bipush 100, 2) := by decide +kernel
theorem dX12_table_25 : decode cX12_table 25 = .ok (.if_icmp .ge 16, 3) := by decide +kernel
theorem dX12_table_28 : decode cX12_table 28 = .ok (.aload_n 0, 1) := by decide +kernel
theorem dX12_table_29 : decode cX12_table 29 = .ok (.getfield 52, 3) := by decide +kernel
theorem dX12_table_32 : decode cX12_table 32 = .ok (.iload_n 1, 1) := by decide +kernel
theorem dX12_table_33 : decode cX12_table 33 = .ok (.iconst (-1), 1) := by decide +kernel
theorem dX12_table_34 : decode cX12_table 34 = .ok (.iastore, 1) := by decide +kernel
theorem dX12_table_35 : decode cX12_table 35 = .ok (.iinc 1 1, 3) := by decide +kernel
theorem dX12_table_38 : decode cX12_table 38 = .ok (.goto (-16), 3) := by decide +kernel
theorem dX12_table_41 : decode cX12_table 41 = .ok (.iconst 0, 1) := by decide +kernel
theorem dX12_table_42 : decode cX12_table 42 = .ok (.istore_n 1, 1) := by decide +kernel
theorem dX12_table_43 : decode cX12_table 43 = .ok (.iload_n 1, 1) := by decide +kernel
theorem dX12_table_44 : decode cX12_table 44 = .ok (.sipush 2500, 3) := by decide +kernel
theorem dX12_table_47 : decode cX12_table 47 = .ok (.if_icmp .ge 16, 3) := by decide +kernel
theorem dX12_table_50 : decode cX12_table 50 = .ok (.aload_n 0, 1) := by decide +kernel
theorem dX12_table_51 : decode cX12_table 51 = .ok (.getfield 55, 3) := by decide +kernel
theorem dX12_table_54 : decode cX12_table 54 = .ok (.iload_n 1, 1) := by decide +kernel
theorem dX12_table_55 : decode cX12_table 55 = .ok (.iconst (-1), 1) := by decide +kernel
theorem dX12_table_56 : decode cX12_table 56 = .ok (.iastore, 1) := by decide +kernel
theorem dX12_table_57 : decode cX12_table 57 = .ok (.iinc 1 1, 3) := by decide +kernel
theorem dX12_table_60 : decode cX12_table 60 = .ok (.goto (-17), 3) := by decide +kernel
theorem dX12_table_63 : decode cX12_table 63 = .ok (.iconst 0, 1) := by decide +kernel
theorem dX12_table_64 : decode cX12_table 64 = .ok (.istore_n 1, 1) := by decide +kernel
theorem dX12_table_65 : decode cX12_table 65 = .ok (.iload_n 1, 1) := by decide +kernel
theorem dX12_table_66 : decode cX12_table 66 = .ok (.aload_n 0, 1) := by decide +kernel
theorem dX12_table_67 : decode cX12_table 67 = .ok (.getfield 7, 3) := by decide +kernel
theorem dX12_table_70 : decode cX12_table 70 = .ok (.iconst 0, 1) := by decide +kernel
theorem dX12_table_71 : decode cX12_table 71 = .ok (.iaload, 1) := by decide +kernel
theorem dX12_table_72 : decode cX12_table 72 = .ok (.if_icmp .ge 17, 3) := by decide +kernel
theorem dX12_table_75 : decode cX12_table 75 = .ok (.aload_n 0, 1) := by decide +kernel
theorem dX12_table_76 : decode cX12_table 76 = .ok (.getfield 58, 3) := by decide +kernel
theorem dX12_table_79 : decode cX12_table 79 = .ok (.iload_n 1, 1) := by decide +kernel
theorem dX12_table_80 : decode cX12_table 80 = .ok (.bipush 99, 2) := by decide +kernel
theorem dX12_table_82 : decode cX12_table 82 = .ok (.iastore, 1) := by decide +kernel
theorem dX12_table_83 : decode cX12_table 83 = .ok (.iinc 1 1, 3) := by decide +kernel
theorem dX12_table_86 : decode cX12_table 86 = .ok (.goto (-21), 3) := by decide +kernel
theorem dX12_table_89 : decode cX12_table 89 = .ok (.iconst 0, 1) := by decide +kernel
theorem dX12_table_90 : decode cX12_table 90 = .ok (.istore_n 1, 1) := by decide +kernel
theorem dX12_table_91 : decode cX12_table 91 = .ok (.iload_n 1, 1) := by decide +kernel
theorem dX12_table_92 : decode cX12_table 92 = .ok (.aload_n 0, 1) := by decide +kernel
theorem dX12_table_93 : decode cX12_table 93 = .ok (.getfield 7, 3) := by decide +kernel
theorem dX12_table_96 : decode cX12_table 96 = .ok (.iconst 0, 1) := by decide +kernel
theorem dX12_table_97 : decode cX12_table 97 = .ok (.iaload, 1) := by decide +kernel
theorem dX12_table_98 : decode cX12_table 98 = .ok (.if_icmp .ge 154, 3) := by decide +kernel
theorem dX12_table_101 : decode cX12_table 101 = .ok (.aload_n 0, 1) := by decide +kernel
theorem dX12_table_102 : decode cX12_table 102 = .ok (.getfield 7, 3) := by decide +kernel
theorem dX12_table_105 : decode cX12_table 105 = .ok (.iconst 2, 1) := by decide +kernel
theorem dX12_table_106 : decode cX12_table 106 = .ok (.iload_n 1, 1) := by decide +kernel
theorem dX12_table_107 : decode cX12_table 107 = .ok (.iadd, 1) := by decide +kernel
theorem dX12_table_108 : decode cX12_table 108 = .ok (.iaload, 1) := by decide +kernel
theorem dX12_table_109 : decode cX12_table 109 = .ok (.istore_n 2, 1) := by decide +kernel
theorem dX12_table_110 : decode cX12_table 110 = .ok (.aload_n 0, 1) := by decide +kernel
theorem dX12_table_111 : decode cX12_table 111 = .ok (.iload_n 1, 1) := by decide +kernel
theorem dX12_table_112 : decode cX12_table 112 = .ok (.invokevirtual 95, 3) := by decide +kernel
theorem dX12_table_115 : decode cX12_table 115 = .ok (.istore_n 3, 1) := by decide +kernel
theorem dX12_table_116 : decode cX12_table 116 = .ok (.iload_n 2, 1) := by decide +kernel
theorem dX12_table_117 : decode cX12_table 117 = .ok (.iconst 4, 1) := by decide +kernel
theorem dX12_table_118 : decode cX12_table 118 = .ok (.if_icmp .ge 13, 3) := by decide +kernel
theorem dX12_table_121 : decode cX12_table 121 = .ok (.aload_n 0, 1) := by decide +kernel
theorem dX12_table_122 : decode cX12_table 122 = .ok (.getfield 49, 3) := by decide +kernel
theorem dX12_table_125 : decode cX12_table 125 = .ok (.iload_n 2, 1) := by decide +kernel
theorem dX12_table_126 : decode cX12_table 126 = .ok (.iload_n 3, 1) := by decide +kernel
theorem dX12_table_127 : decode cX12_table 127 = .ok (.iastore, 1) := by decide +kernel
theorem dX12_table_128 : decode cX12_table 128 = .ok (.goto 74, 3) := by decide +kernel
theorem dX12_table_131 : decode cX12_table 131 = .ok (.iload_n 2, 1) := by decide +kernel
theorem dX12_table_132 : decode cX12_table 132 = .ok (.bipush 6, 2) := by decide +kernel
theorem dX12_table_134 : decode cX12_table 134 = .ok (.if_icmp .ge 32, 3) := by decide +kernel
theorem dX12_table_137 : decode cX12_table 137 = .ok (.aload_n 0, 1) := by decide +kernel
theorem dX12_table_138 : decode cX12_table 138 = .ok (.getfield 52, 3) := by decide +kernel
theorem dX12_table_141 : decode cX12_table 141 = .ok (.bipush 50, 2) := by decide +kernel
theorem dX12_table_143 : decode cX12_table 143 = .ok (.iload_n 2, 1) := by decide +kernel
theorem dX12_table_144 : decode cX12_table 144 = .ok (.iconst 4, 1) := by decide +kernel
theorem dX12_table_145 : decode cX12_table 145 = .ok (.isub, 1) := by decide +kernel
theorem dX12_table_146 : decode cX12_table 146 = .ok (.imul, 1) := by decide +kernel
theorem dX12_table_147 : decode cX12_table 147 = .ok (.aload_n 0, 1) := by decide +kernel
theorem dX12_table_148 : decode cX12_table 148 = .ok (.aload_n 0, 1) := by decide +kernel
theorem dX12_table_149 : decode cX12_table 149 = .ok (.getfield 7, 3) := by decide +kernel
theorem dX12_table_152 : decode cX12_table 152 = .ok (.bipush 52, 2) := by decide +kernel
theorem dX12_table_154 : decode cX12_table 154 = .ok (.iload_n 1, 1) := by decide +kernel
theorem dX12_table_155 : decode cX12_table 155 = .ok (.iadd, 1) := by decide +kernel
theorem dX12_table_156 : decode cX12_table 156 = .ok (.iaload, 1) := by decide +kernel
theorem dX12_table_157 : decode cX12_table 157 = .ok (.invokevirtual 95, 3) := by decide +kernel
theorem dX12_table_160 : decode cX12_table 160 = .ok (.iadd, 1) := by decide +kernel
theorem dX12_table_161 : decode cX12_table 161 = .ok (.iload_n 3, 1) := by decide +kernel
theorem dX12_table_162 : decode cX12_table 162 = .ok (.iastore, 1) := by decide +kernel
theorem dX12_table_163 : decode cX12_table 163 = .ok (.goto 39, 3) := by decide +kernel
theorem dX12_table_166 : decode cX12_table 166 = .ok (.aload_n 0, 1) := by decide +kernel
theorem dX12_table_167 : decode cX12_table 167 = .ok (.getfield 55, 3) := by decide +kernel
theorem dX12_table_170 : decode cX12_table 170 = .ok (.bipush 50, 2) := by decide +kernel
theorem dX12_table_172 : decode cX12_table 172 = .ok (.aload_n 0, 1) := by decide +kernel
theorem dX12_table_173 : decode cX12_table 173 = .ok (.aload_n 0, 1) := by decide +kernel
theorem dX12_table_174 : decode cX12_table 174 = .ok (.getfield 7, 3) := by decide +kernel
theorem dX12_table_177 : decode cX12_table 177 = .ok (.bipush 52, 2) := by decide +kernel
theorem dX12_table_179 : decode cX12_table 179 = .ok (.iload_n 1, 1) := by decide +kernel
theorem dX12_table_180 : decode cX12_table 180 = .ok (.iadd, 1) := by decide +kernel
theorem dX12_table_181 : decode cX12_table 181 = .ok (.iaload, 1) := by decide +kernel
theorem dX12_table_182 : decode cX12_table 182 = .ok (.invokevirtual 95, 3) := by decide +kernel
theorem dX12_table_185 : decode cX12_table 185 = .ok (.imul, 1) := by decide +kernel
theorem dX12_table_186 : decode cX12_table 186 = .ok (.aload_n 0, 1) := by decide +kernel
theorem dX12_table_187 : decode cX12_table 187 = .ok (.aload_n 0, 1) := by decide +kernel
theorem dX12_table_188 : decode cX12_table 188 = .ok (.getfield 7, 3) := by decide +kernel
theorem dX12_table_191 : decode cX12_table 191 = .ok (.bipush 102, 2) := by decide +kernel
theorem dX12_table_193 : decode cX12_table 193 = .ok (.iload_n 1, 1) := by decide +kernel
theorem dX12_table_194 : decode cX12_table 194 = .ok (.iadd, 1) := by decide +kernel
theorem dX12_table_195 : decode cX12_table 195 = .ok (.iaload, 1) := by decide +kernel
theorem dX12_table_196 : decode cX12_table 196 = .ok (.invokevirtual 95, 3) := by decide +kernel
theorem dX12_table_199 : decode cX12_table 199 = .ok (.iadd, 1) := by decide +kernel
theorem dX12_table_200 : decode cX12_table 200 = .ok (.iload_n 3, 1) := by decide +kernel
theorem dX12_table_201 : decode cX12_table 201 = .ok (.iastore, 1) := by decide +kernel
theorem dX12_table_202 : decode cX12_table 202 = .ok (.aload_n 0, 1) := by decide +kernel
theorem dX12_table_203 : decode cX12_table 203 = .ok (.getfield 58, 3) := by decide +kernel
theorem dX12_table_206 : decode cX12_table 206 = .ok (.iload_n 3, 1) := by decide +kernel
theorem dX12_table_207 : decode cX12_table 207 = .ok (.aload_n 0, 1) := by decide +kernel
theorem dX12_table_208 : decode cX12_table 208 = .ok (.getfield 7, 3) := by decide +kernel
theorem dX12_table_211 : decode cX12_table 211 = .ok (.sipush 152, 3) := by decide +kernel
theorem dX12_table_214 : decode cX12_table 214 = .ok (.iload_n 1, 1) := by decide +kernel
theorem dX12_table_215 : decode cX12_table 215 = .ok (.iadd, 1) := by decide +kernel
theorem dX12_table_216 : decode cX12_table 216 = .ok (.iaload, 1) := by decide +kernel
theorem dX12_table_217 : decode cX12_table 217 = .ok (.aload_n 0, 1) := by decide +kernel
theorem dX12_table_218 : decode cX12_table 218 = .ok (.getfield 58, 3) := by decide +kernel
theorem dX12_table_221 : decode cX12_table 221 = .ok (.iload_n 3, 1) := by decide +kernel
theorem dX12_table_222 : decode cX12_table 222 = .ok (.iaload, 1) := by decide +kernel
theorem dX12_table_223 : decode cX12_table 223 = .ok (.if_icmp .ge 16, 3) := by decide +kernel
theorem dX12_table_226 : decode cX12_table 226 = .ok (.aload_n 0, 1) := by decide +kernel
theorem dX12_table_227 : decode cX12_table 227 = .ok (.getfield 7, 3) := by decide +kernel
theorem dX12_table_230 : decode cX12_table 230 = .ok (.sipush 152, 3) := by decide +kernel
theorem dX12_table_233 : decode cX12_table 233 = .ok (.iload_n 1, 1) := by decide +kernel
theorem dX12_table_234 : decode cX12_table 234 = .ok (.iadd, 1) := by decide +kernel
theorem dX12_table_235 : decode cX12_table 235 = .ok (.iaload, 1) := by decide +kernel
theorem dX12_table_236 : decode cX12_table 236 = .ok (.goto 9, 3) := by decide +kernel
theorem dX12_table_239 : decode cX12_table 239 = .ok (.aload_n 0, 1) := by decide +kernel
theorem dX12_table_240 : decode cX12_table 240 = .ok (.getfield 58, 3) := by decide +kernel
theorem dX12_table_243 : decode cX12_table 243 = .ok (.iload_n 3, 1) := by decide +kernel
theorem dX12_table_244 : decode cX12_table 244 = .ok (.iaload, 1) := by decide +kernel
theorem dX12_table_245 : decode cX12_table 245 = .ok (.iastore, 1) := by decide +kernel
theorem dX12_table_246 : decode cX12_table 246 = .ok (.iinc 1 1, 3) := by decide +kernel
theorem dX12_table_249 : decode cX12_table 249 = .ok (.goto (-158), 3) := by decide +kernel
theorem dX12_table_252 : decode cX12_table 252 = .ok (.return_, 1) := by decide +kernel
theorem dX12_placeOf_0 : decode cX12_placeOf 0 = .ok (.iconst 0, 1) := by decide +kernel
theorem dX12_placeOf_1 : decode cX12_placeOf 1 = .ok (.istore_n 2, 1) := by decide +kernel
theorem dX12_placeOf_2 : decode cX12_placeOf 2 = .ok (.aload_n 0, 1) := by decide +kernel
theorem dX12_placeOf_3 : decode cX12_placeOf 3 = .ok (.iload_n 1, 1) := by decide +kernel
theorem dX12_placeOf_4 : decode cX12_placeOf 4 = .ok (.iconst 1, 1) := by decide +kernel
theorem dX12_placeOf_5 : decode cX12_placeOf 5 = .ok (.invokevirtual 133, 3) := by decide +kernel
theorem dX12_placeOf_8 : decode cX12_placeOf 8 = .ok (.iconst 1, 1) := by decide +kernel
theorem dX12_placeOf_9 : decode cX12_placeOf 9 = .ok (.isub, 1) := by decide +kernel
theorem dX12_placeOf_10 : decode cX12_placeOf 10 = .ok (.istore_n 3, 1) := by decide +kernel
theorem dX12_placeOf_11 : decode cX12_placeOf 11 = .ok (.iload_n 3, 1) := by decide +kernel
theorem dX12_placeOf_12 : decode cX12_placeOf 12 = .ok (.ifCond .lt 142, 3) := by decide +kernel
theorem dX12_placeOf_15 : decode cX12_placeOf 15 = .ok (.aload_n 0, 1) := by decide +kernel
theorem dX12_placeOf_16 : decode cX12_placeOf 16 = .ok (.iload_n 1, 1) := by decide +kernel
theorem dX12_placeOf_17 : decode cX12_placeOf 17 = .ok (.iconst 1, 1) := by decide +kernel
theorem dX12_placeOf_18 : decode cX12_placeOf 18 = .ok (.iload_n 3, 1) := by decide +kernel
theorem dX12_placeOf_19 : decode cX12_placeOf 19 = .ok (.invokevirtual 137, 3) := by decide +kernel
theorem dX12_placeOf_22 : decode cX12_placeOf 22 = .ok (.istore 4, 2) := by decide +kernel
theorem dX12_placeOf_24 : decode cX12_placeOf 24 = .ok (.iload 4, 2) := by decide +kernel
theorem dX12_placeOf_26 : decode cX12_placeOf 26 = .ok (.bipush 7, 2) := by decide +kernel
theorem dX12_placeOf_28 : decode cX12_placeOf 28 = .ok (.if_icmp .lt 18, 3) := by decide +kernel
theorem dX12_placeOf_31 : decode cX12_placeOf 31 = .ok (.aload_n 0, 1) := by decide +kernel
theorem dX12_placeOf_32 : decode cX12_placeOf 32 = .ok (.getfield 70, 3) := by decide +kernel
theorem dX12_placeOf_35 : decode cX12_placeOf 35 = .ok (.iload 4, 2) := by decide +kernel
theorem dX12_placeOf_37 : decode cX12_placeOf 37 = .ok (.bipush 7, 2) := by decide +kernel
theorem dX12_placeOf_39 : decode cX12_placeOf 39 = .ok (.isub, 1) := by decide +kernel
theorem dX12_placeOf_40 : decode cX12_placeOf 40 = .ok (.iaload, 1) := by decide +kernel
theorem dX12_placeOf_41 : decode cX12_placeOf 41 = .ok (.istore 5, 2) := by decide +kernel
theorem dX12_placeOf_43 : decode cX12_placeOf 43 = .ok (.goto 87, 3) := by decide +kernel
theorem dX12_placeOf_46 : decode cX12_placeOf 46 = .ok (.iload 4, 2) := by decide +kernel
theorem dX12_placeOf_48 : decode cX12_placeOf 48 = .ok (.invokestatic 106, 3) := by decide +kernel
theorem dX12_placeOf_51 : decode cX12_placeOf 51 = .ok (.ifCond .ne 15, 3) := by decide +kernel
theorem dX12_placeOf_54 : decode cX12_placeOf 54 = .ok (.aload_n 0, 1) := by decide +kernel
theorem dX12_placeOf_55 : decode cX12_placeOf 55 = .ok (.getfield 49, 3) := by decide +kernel
theorem dX12_placeOf_58 : decode cX12_placeOf 58 = .ok (.iload 4, 2) := by decide +kernel
theorem dX12_placeOf_60 : decode cX12_placeOf 60 = .ok (.iaload, 1) := by decide +kernel
theorem dX12_placeOf_61 : decode cX12_placeOf 61 = .ok (.istore 5, 2) := by decide +kernel
theorem dX12_placeOf_63 : decode cX12_placeOf 63 = .ok (.goto 67, 3) := by decide +kernel
theorem dX12_placeOf_66 : decode cX12_placeOf 66 = .ok (.iload 4, 2) := by decide +kernel
theorem dX12_placeOf_68 : decode cX12_placeOf 68 = .ok (.invokestatic 106, 3) := by decide +kernel
theorem dX12_placeOf_71 : decode cX12_placeOf 71 = .ok (.iconst 1, 1) := by decide +kernel
theorem dX12_placeOf_72 : decode cX12_placeOf 72 = .ok (.if_icmp .ne 30, 3) := by decide +kernel
theorem dX12_placeOf_75 : decode cX12_placeOf 75 = .ok (.iinc 2 (-1), 3) := by decide +kernel
theorem dX12_placeOf_78 : decode cX12_placeOf 78 = .ok (.aload_n 0, 1) := by decide +kernel
theorem dX12_placeOf_79 : decode cX12_placeOf 79 = .ok (.getfield 52, 3) := by decide +kernel
theorem dX12_placeOf_82 : decode cX12_placeOf 82 = .ok (.bipush 50, 2) := by decide +kernel
theorem dX12_placeOf_84 : decode cX12_placeOf 84 = .ok (.iload 4, 2) := by decide +kernel
theorem dX12_placeOf_86 : decode cX12_placeOf 86 = .ok (.iconst 4, 1) := by decide +kernel
theorem dX12_placeOf_87 : decode cX12_placeOf 87 = .ok (.isub, 1) := by decide +kernel
theorem dX12_placeOf_88 : decode cX12_placeOf 88 = .ok (.imul, 1) := by decide +kernel
theorem dX12_placeOf_89 : decode cX12_placeOf 89 = .ok (.aload_n 0, 1) := by decide +kernel
theorem dX12_placeOf_90 : decode cX12_placeOf 90 = .ok (.getfield 67, 3) := by decide +kernel
theorem dX12_placeOf_93 : decode cX12_placeOf 93 = .ok (.iload_n 2, 1) := by decide +kernel
theorem dX12_placeOf_94 : decode cX12_placeOf 94 = .ok (.iaload, 1) := by decide +kernel
theorem dX12_placeOf_95 : decode cX12_placeOf 95 = .ok (.iadd, 1) := by decide +kernel
theorem dX12_placeOf_96 : decode cX12_placeOf 96 = .ok (.iaload, 1) := by decide +kernel
theorem dX12_placeOf_97 : decode cX12_placeOf 97 = .ok (.istore 5, 2) := by decide +kernel
theorem dX12_placeOf_99 : decode cX12_placeOf 99 = .ok (.goto 31, 3) := by decide +kernel
theorem dX12_placeOf_102 : decode cX12_placeOf 102 = .ok (.iinc 2 (-2), 3) := by decide +kernel
theorem dX12_placeOf_105 : decode cX12_placeOf 105 = .ok (.aload_n 0, 1) := by decide +kernel
theorem dX12_placeOf_106 : decode cX12_placeOf 106 = .ok (.getfield 55, 3) := by decide +kernel
theorem dX12_placeOf_109 : decode cX12_placeOf 109 = .ok (.bipush 50, 2) := by decide +kernel
theorem dX12_placeOf_111 : decode cX12_placeOf 111 = .ok (.aload_n 0, 1) := by decide +kernel
theorem dX12_placeOf_112 : decode cX12_placeOf 112 = .ok (.getfield 67, 3) := by decide +kernel
theorem dX12_placeOf_115 : decode cX12_placeOf 115 = .ok (.iload_n 2, 1) := by decide +kernel
theorem dX12_placeOf_116 : decode cX12_placeOf 116 = .ok (.iconst 1, 1) := by decide +kernel
theorem dX12_placeOf_117 : decode cX12_placeOf 117 = .ok (.iadd, 1) := by decide +kernel
theorem dX12_placeOf_118 : decode cX12_placeOf 118 = .ok (.iaload, 1) := by decide +kernel
theorem dX12_placeOf_119 : decode cX12_placeOf 119 = .ok (.imul, 1) := by decide +kernel
theorem dX12_placeOf_120 : decode cX12_placeOf 120 = .ok (.aload_n 0, 1) := by decide +kernel
theorem dX12_placeOf_121 : decode cX12_placeOf 121 = .ok (.getfield 67, 3) := by decide +kernel
theorem dX12_placeOf_124 : decode cX12_placeOf 124 = .ok (.iload_n 2, 1) := by decide +kernel
theorem dX12_placeOf_125 : decode cX12_placeOf 125 = .ok (.iaload, 1) := by decide +kernel
theorem dX12_placeOf_126 : decode cX12_placeOf 126 = .ok (.iadd, 1) := by decide +kernel
theorem dX12_placeOf_127 : decode cX12_placeOf 127 = .ok (.iaload, 1) := by decide +kernel
theorem dX12_placeOf_128 : decode cX12_placeOf 128 = .ok (.istore 5, 2) := by decide +kernel
theorem dX12_placeOf_130 : decode cX12_placeOf 130 = .ok (.iload 5, 2) := by decide +kernel
theorem dX12_placeOf_132 : decode cX12_placeOf 132 = .ok (.ifCond .ge 5, 3) := by decide +kernel
theorem dX12_placeOf_135 : decode cX12_placeOf 135 = .ok (.iconst (-1), 1) := by decide +kernel
theorem dX12_placeOf_136 : decode cX12_placeOf 136 = .ok (.ireturn, 1) := by decide +kernel
theorem dX12_placeOf_137 : decode cX12_placeOf 137 = .ok (.aload_n 0, 1) := by decide +kernel
theorem dX12_placeOf_138 : decode cX12_placeOf 138 = .ok (.getfield 67, 3) := by decide +kernel
theorem dX12_placeOf_141 : decode cX12_placeOf 141 = .ok (.iload_n 2, 1) := by decide +kernel
theorem dX12_placeOf_142 : decode cX12_placeOf 142 = .ok (.iload 5, 2) := by decide +kernel
theorem dX12_placeOf_144 : decode cX12_placeOf 144 = .ok (.iastore, 1) := by decide +kernel
theorem dX12_placeOf_145 : decode cX12_placeOf 145 = .ok (.iinc 2 1, 3) := by decide +kernel
theorem dX12_placeOf_148 : decode cX12_placeOf 148 = .ok (.iinc 3 (-1), 3) := by decide +kernel
theorem dX12_placeOf_151 : decode cX12_placeOf 151 = .ok (.goto (-140), 3) := by decide +kernel
theorem dX12_placeOf_154 : decode cX12_placeOf 154 = .ok (.aload_n 0, 1) := by decide +kernel
theorem dX12_placeOf_155 : decode cX12_placeOf 155 = .ok (.getfield 67, 3) := by decide +kernel
theorem dX12_placeOf_158 : decode cX12_placeOf 158 = .ok (.iconst 0, 1) := by decide +kernel
theorem dX12_placeOf_159 : decode cX12_placeOf 159 = .ok (.iaload, 1) := by decide +kernel
theorem dX12_placeOf_160 : decode cX12_placeOf 160 = .ok (.ireturn, 1) := by decide +kernel
theorem dX12_meets_0 : decode cX12_meets 0 = .ok (.aload_n 0, 1) := by decide +kernel
theorem dX12_meets_1 : decode cX12_meets 1 = .ok (.iload_n 1, 1) := by decide +kernel
theorem dX12_meets_2 : decode cX12_meets 2 = .ok (.invokevirtual 141, 3) := by decide +kernel
theorem dX12_meets_5 : decode cX12_meets 5 = .ok (.istore_n 2, 1) := by decide +kernel
theorem dX12_meets_6 : decode cX12_meets 6 = .ok (.iload_n 2, 1) := by decide +kernel
theorem dX12_meets_7 : decode cX12_meets 7 = .ok (.ifCond .lt 15, 3) := by decide +kernel
theorem dX12_meets_10 : decode cX12_meets 10 = .ok (.aload_n 0, 1) := by decide +kernel
theorem dX12_meets_11 : decode cX12_meets 11 = .ok (.getfield 64, 3) := by decide +kernel
theorem dX12_meets_14 : decode cX12_meets 14 = .ok (.iload_n 1, 1) := by decide +kernel
theorem dX12_meets_15 : decode cX12_meets 15 = .ok (.iaload, 1) := by decide +kernel
theorem dX12_meets_16 : decode cX12_meets 16 = .ok (.sipush 200, 3) := by decide +kernel
theorem dX12_meets_19 : decode cX12_meets 19 = .ok (.if_icmp .ne 4, 3) := by decide +kernel
theorem dX12_meets_22 : decode cX12_meets 22 = .ok (.return_, 1) := by decide +kernel
theorem dX12_meets_23 : decode cX12_meets 23 = .ok (.aload_n 0, 1) := by decide +kernel
theorem dX12_meets_24 : decode cX12_meets 24 = .ok (.getfield 58, 3) := by decide +kernel
theorem dX12_meets_27 : decode cX12_meets 27 = .ok (.iload_n 2, 1) := by decide +kernel
theorem dX12_meets_28 : decode cX12_meets 28 = .ok (.iaload, 1) := by decide +kernel
theorem dX12_meets_29 : decode cX12_meets 29 = .ok (.istore_n 3, 1) := by decide +kernel
theorem dX12_meets_30 : decode cX12_meets 30 = .ok (.iconst 0, 1) := by decide +kernel
theorem dX12_meets_31 : decode cX12_meets 31 = .ok (.istore 4, 2) := by decide +kernel
theorem dX12_meets_33 : decode cX12_meets 33 = .ok (.iload 4, 2) := by decide +kernel
theorem dX12_meets_35 : decode cX12_meets 35 = .ok (.iconst 3, 1) := by decide +kernel
theorem dX12_meets_36 : decode cX12_meets 36 = .ok (.if_icmp .ge 52, 3) := by decide +kernel
theorem dX12_meets_39 : decode cX12_meets 39 = .ok (.aload_n 0, 1) := by decide +kernel
theorem dX12_meets_40 : decode cX12_meets 40 = .ok (.getfield 70, 3) := by decide +kernel
theorem dX12_meets_43 : decode cX12_meets 43 = .ok (.iload 4, 2) := by decide +kernel
theorem dX12_meets_45 : decode cX12_meets 45 = .ok (.iaload, 1) := by decide +kernel
theorem dX12_meets_46 : decode cX12_meets 46 = .ok (.ifCond .lt 34, 3) := by decide +kernel
theorem dX12_meets_49 : decode cX12_meets 49 = .ok (.aload_n 0, 1) := by decide +kernel
theorem dX12_meets_50 : decode cX12_meets 50 = .ok (.getfield 58, 3) := by decide +kernel
theorem dX12_meets_53 : decode cX12_meets 53 = .ok (.aload_n 0, 1) := by decide +kernel
theorem dX12_meets_54 : decode cX12_meets 54 = .ok (.getfield 70, 3) := by decide +kernel
theorem dX12_meets_57 : decode cX12_meets 57 = .ok (.iload 4, 2) := by decide +kernel
theorem dX12_meets_59 : decode cX12_meets 59 = .ok (.iaload, 1) := by decide +kernel
theorem dX12_meets_60 : decode cX12_meets 60 = .ok (.iaload, 1) := by decide +kernel
theorem dX12_meets_61 : decode cX12_meets 61 = .ok (.iload_n 3, 1) := by decide +kernel
theorem dX12_meets_62 : decode cX12_meets 62 = .ok (.if_icmp .le 18, 3) := by decide +kernel
theorem dX12_meets_65 : decode cX12_meets 65 = .ok (.aload_n 0, 1) := by decide +kernel
theorem dX12_meets_66 : decode cX12_meets 66 = .ok (.getfield 58, 3) := by decide +kernel
theorem dX12_meets_69 : decode cX12_meets 69 = .ok (.aload_n 0, 1) := by decide +kernel
theorem dX12_meets_70 : decode cX12_meets 70 = .ok (.getfield 70, 3) := by decide +kernel
theorem dX12_meets_73 : decode cX12_meets 73 = .ok (.iload 4, 2) := by decide +kernel
theorem dX12_meets_75 : decode cX12_meets 75 = .ok (.iaload, 1) := by decide +kernel
theorem dX12_meets_76 : decode cX12_meets 76 = .ok (.iaload, 1) := by decide +kernel
theorem dX12_meets_77 : decode cX12_meets 77 = .ok (.goto 4, 3) := by decide +kernel
theorem dX12_meets_80 : decode cX12_meets 80 = .ok (.iload_n 3, 1) := by decide +kernel
theorem dX12_meets_81 : decode cX12_meets 81 = .ok (.istore_n 3, 1) := by decide +kernel
theorem dX12_meets_82 : decode cX12_meets 82 = .ok (.iinc 4 1, 3) := by decide +kernel
theorem dX12_meets_85 : decode cX12_meets 85 = .ok (.goto (-52), 3) := by decide +kernel
theorem dX12_meets_88 : decode cX12_meets 88 = .ok (.sipush 1000, 3) := by decide +kernel
theorem dX12_meets_91 : decode cX12_meets 91 = .ok (.iload_n 1, 1) := by decide +kernel
theorem dX12_meets_92 : decode cX12_meets 92 = .ok (.imul, 1) := by decide +kernel
theorem dX12_meets_93 : decode cX12_meets 93 = .ok (.iconst 5, 1) := by decide +kernel
theorem dX12_meets_94 : decode cX12_meets 94 = .ok (.aload_n 0, 1) := by decide +kernel
theorem dX12_meets_95 : decode cX12_meets 95 = .ok (.getfield 64, 3) := by decide +kernel
theorem dX12_meets_98 : decode cX12_meets 98 = .ok (.iload_n 1, 1) := by decide +kernel
theorem dX12_meets_99 : decode cX12_meets 99 = .ok (.iaload, 1) := by decide +kernel
theorem dX12_meets_100 : decode cX12_meets 100 = .ok (.imul, 1) := by decide +kernel
theorem dX12_meets_101 : decode cX12_meets 101 = .ok (.iadd, 1) := by decide +kernel
theorem dX12_meets_102 : decode cX12_meets 102 = .ok (.istore 4, 2) := by decide +kernel
theorem dX12_meets_104 : decode cX12_meets 104 = .ok (.aload_n 0, 1) := by decide +kernel
theorem dX12_meets_105 : decode cX12_meets 105 = .ok (.getfield 61, 3) := by decide +kernel
theorem dX12_meets_108 : decode cX12_meets 108 = .ok (.iload 4, 2) := by decide +kernel
theorem dX12_meets_110 : decode cX12_meets 110 = .ok (.aload_n 0, 1) := by decide +kernel
theorem dX12_meets_111 : decode cX12_meets 111 = .ok (.getfield 70, 3) := by decide +kernel
theorem dX12_meets_114 : decode cX12_meets 114 = .ok (.iconst 0, 1) := by decide +kernel
theorem dX12_meets_115 : decode cX12_meets 115 = .ok (.iaload, 1) := by decide +kernel
theorem dX12_meets_116 : decode cX12_meets 116 = .ok (.iastore, 1) := by decide +kernel
theorem dX12_meets_117 : decode cX12_meets 117 = .ok (.aload_n 0, 1) := by decide +kernel
theorem dX12_meets_118 : decode cX12_meets 118 = .ok (.getfield 61, 3) := by decide +kernel
theorem dX12_meets_121 : decode cX12_meets 121 = .ok (.iload 4, 2) := by decide +kernel
theorem dX12_meets_123 : decode cX12_meets 123 = .ok (.iconst 1, 1) := by decide +kernel
theorem dX12_meets_124 : decode cX12_meets 124 = .ok (.iadd, 1) := by decide +kernel
theorem dX12_meets_125 : decode cX12_meets 125 = .ok (.aload_n 0, 1) := by decide +kernel
theorem dX12_meets_126 : decode cX12_meets 126 = .ok (.getfield 70, 3) := by decide +kernel
theorem dX12_meets_129 : decode cX12_meets 129 = .ok (.iconst 1, 1) := by decide +kernel
theorem dX12_meets_130 : decode cX12_meets 130 = .ok (.iaload, 1) := by decide +kernel
theorem dX12_meets_131 : decode cX12_meets 131 = .ok (.iastore, 1) := by decide +kernel
theorem dX12_meets_132 : decode cX12_meets 132 = .ok (.aload_n 0, 1) := by decide +kernel
theorem dX12_meets_133 : decode cX12_meets 133 = .ok (.getfield 61, 3) := by decide +kernel
theorem dX12_meets_136 : decode cX12_meets 136 = .ok (.iload 4, 2) := by decide +kernel
theorem dX12_meets_138 : decode cX12_meets 138 = .ok (.iconst 2, 1) := by decide +kernel
theorem dX12_meets_139 : decode cX12_meets 139 = .ok (.iadd, 1) := by decide +kernel
theorem dX12_meets_140 : decode cX12_meets 140 = .ok (.aload_n 0, 1) := by decide +kernel
theorem dX12_meets_141 : decode cX12_meets 141 = .ok (.getfield 70, 3) := by decide +kernel
theorem dX12_meets_144 : decode cX12_meets 144 = .ok (.iconst 2, 1) := by decide +kernel
end
section
theorem dX12_meets_145 : decode cX12_meets 145 = .ok (.iaload, 1) := by decide +kernel
theorem dX12_meets_146 : decode cX12_meets 146 = .ok (.iastore, 1) := by decide +kernel
theorem dX12_meets_147 : decode cX12_meets 147 = .ok (.aload_n 0, 1) := by decide +kernel
theorem dX12_meets_148 : decode cX12_meets 148 = .ok (.getfield 61, 3) := by decide +kernel
theorem dX12_meets_151 : decode cX12_meets 151 = .ok (.iload 4, 2) := by decide +kernel
theorem dX12_meets_153 : decode cX12_meets 153 = .ok (.iconst 3, 1) := by decide +kernel
theorem dX12_meets_154 : decode cX12_meets 154 = .ok (.iadd, 1) := by decide +kernel
theorem dX12_meets_155 : decode cX12_meets 155 = .ok (.iload_n 2, 1) := by decide +kernel
theorem dX12_meets_156 : decode cX12_meets 156 = .ok (.iastore, 1) := by decide +kernel
theorem dX12_meets_157 : decode cX12_meets 157 = .ok (.aload_n 0, 1) := by decide +kernel
theorem dX12_meets_158 : decode cX12_meets 158 = .ok (.getfield 61, 3) := by decide +kernel
theorem dX12_meets_161 : decode cX12_meets 161 = .ok (.iload 4, 2) := by decide +kernel
theorem dX12_meets_163 : decode cX12_meets 163 = .ok (.iconst 4, 1) := by decide +kernel
theorem dX12_meets_164 : decode cX12_meets 164 = .ok (.iadd, 1) := by decide +kernel
theorem dX12_meets_165 : decode cX12_meets 165 = .ok (.iload_n 3, 1) := by decide +kernel
theorem dX12_meets_166 : decode cX12_meets 166 = .ok (.iconst 1, 1) := by decide +kernel
theorem dX12_meets_167 : decode cX12_meets 167 = .ok (.iadd, 1) := by decide +kernel
theorem dX12_meets_168 : decode cX12_meets 168 = .ok (.iastore, 1) := by decide +kernel
theorem dX12_meets_169 : decode cX12_meets 169 = .ok (.aload_n 0, 1) := by decide +kernel
theorem dX12_meets_170 : decode cX12_meets 170 = .ok (.getfield 64, 3) := by decide +kernel
theorem dX12_meets_173 : decode cX12_meets 173 = .ok (.iload_n 1, 1) := by decide +kernel
theorem dX12_meets_174 : decode cX12_meets 174 = .ok (.dup2, 1) := by decide +kernel
theorem dX12_meets_175 : decode cX12_meets 175 = .ok (.iaload, 1) := by decide +kernel
theorem dX12_meets_176 : decode cX12_meets 176 = .ok (.iconst 1, 1) := by decide +kernel
theorem dX12_meets_177 : decode cX12_meets 177 = .ok (.iadd, 1) := by decide +kernel
theorem dX12_meets_178 : decode cX12_meets 178 = .ok (.iastore, 1) := by decide +kernel
theorem dX12_meets_179 : decode cX12_meets 179 = .ok (.return_, 1) := by decide +kernel
theorem dX12_isStand_0 : decode cX12_isStand 0 = .ok (.iload_n 1, 1) := by decide +kernel
theorem dX12_isStand_1 : decode cX12_isStand 1 = .ok (.iload_n 2, 1) := by decide +kernel
theorem dX12_isStand_2 : decode cX12_isStand 2 = .ok (.ishr, 1) := by decide +kernel
theorem dX12_isStand_3 : decode cX12_isStand 3 = .ok (.iconst 1, 1) := by decide +kernel
theorem dX12_isStand_4 : decode cX12_isStand 4 = .ok (.iand, 1) := by decide +kernel
theorem dX12_isStand_5 : decode cX12_isStand 5 = .ok (.ifCond .ne 15, 3) := by decide +kernel
theorem dX12_isStand_8 : decode cX12_isStand 8 = .ok (.iload_n 3, 1) := by decide +kernel
theorem dX12_isStand_9 : decode cX12_isStand 9 = .ok (.ifCond .ge 7, 3) := by decide +kernel
theorem dX12_isStand_12 : decode cX12_isStand 12 = .ok (.iconst 1, 1) := by decide +kernel
theorem dX12_isStand_13 : decode cX12_isStand 13 = .ok (.goto 25, 3) := by decide +kernel
theorem dX12_isStand_16 : decode cX12_isStand 16 = .ok (.iconst 0, 1) := by decide +kernel
theorem dX12_isStand_17 : decode cX12_isStand 17 = .ok (.goto 21, 3) := by decide +kernel
theorem dX12_isStand_20 : decode cX12_isStand 20 = .ok (.iload_n 3, 1) := by decide +kernel
theorem dX12_isStand_21 : decode cX12_isStand 21 = .ok (.ifCond .lt 16, 3) := by decide +kernel
theorem dX12_isStand_24 : decode cX12_isStand 24 = .ok (.aload_n 0, 1) := by decide +kernel
theorem dX12_isStand_25 : decode cX12_isStand 25 = .ok (.iload_n 3, 1) := by decide +kernel
theorem dX12_isStand_26 : decode cX12_isStand 26 = .ok (.invokevirtual 95, 3) := by decide +kernel
theorem dX12_isStand_29 : decode cX12_isStand 29 = .ok (.iload_n 3, 1) := by decide +kernel
theorem dX12_isStand_30 : decode cX12_isStand 30 = .ok (.if_icmp .ne 7, 3) := by decide +kernel
theorem dX12_isStand_33 : decode cX12_isStand 33 = .ok (.iconst 1, 1) := by decide +kernel
theorem dX12_isStand_34 : decode cX12_isStand 34 = .ok (.goto 4, 3) := by decide +kernel
theorem dX12_isStand_37 : decode cX12_isStand 37 = .ok (.iconst 0, 1) := by decide +kernel
theorem dX12_isStand_38 : decode cX12_isStand 38 = .ok (.ireturn, 1) := by decide +kernel
theorem dX12_finds_0 : decode cX12_finds 0 = .ok (.aload_n 0, 1) := by decide +kernel
theorem dX12_finds_1 : decode cX12_finds 1 = .ok (.getfield 64, 3) := by decide +kernel
theorem dX12_finds_4 : decode cX12_finds 4 = .ok (.iload_n 1, 1) := by decide +kernel
theorem dX12_finds_5 : decode cX12_finds 5 = .ok (.iconst 0, 1) := by decide +kernel
theorem dX12_finds_6 : decode cX12_finds 6 = .ok (.iastore, 1) := by decide +kernel
theorem dX12_finds_7 : decode cX12_finds 7 = .ok (.aload_n 0, 1) := by decide +kernel
theorem dX12_finds_8 : decode cX12_finds 8 = .ok (.iload_n 1, 1) := by decide +kernel
theorem dX12_finds_9 : decode cX12_finds 9 = .ok (.invokevirtual 144, 3) := by decide +kernel
theorem dX12_finds_12 : decode cX12_finds 12 = .ok (.istore_n 2, 1) := by decide +kernel
theorem dX12_finds_13 : decode cX12_finds 13 = .ok (.aload_n 0, 1) := by decide +kernel
theorem dX12_finds_14 : decode cX12_finds 14 = .ok (.getfield 7, 3) := by decide +kernel
theorem dX12_finds_17 : decode cX12_finds 17 = .ok (.iconst 0, 1) := by decide +kernel
theorem dX12_finds_18 : decode cX12_finds 18 = .ok (.iaload, 1) := by decide +kernel
theorem dX12_finds_19 : decode cX12_finds 19 = .ok (.istore_n 3, 1) := by decide +kernel
theorem dX12_finds_20 : decode cX12_finds 20 = .ok (.iconst (-1), 1) := by decide +kernel
theorem dX12_finds_21 : decode cX12_finds 21 = .ok (.istore 4, 2) := by decide +kernel
theorem dX12_finds_23 : decode cX12_finds 23 = .ok (.iload 4, 2) := by decide +kernel
theorem dX12_finds_25 : decode cX12_finds 25 = .ok (.iload_n 3, 1) := by decide +kernel
theorem dX12_finds_26 : decode cX12_finds 26 = .ok (.if_icmp .ge 125, 3) := by decide +kernel
theorem dX12_finds_29 : decode cX12_finds 29 = .ok (.aload_n 0, 1) := by decide +kernel
theorem dX12_finds_30 : decode cX12_finds 30 = .ok (.getfield 64, 3) := by decide +kernel
theorem dX12_finds_33 : decode cX12_finds 33 = .ok (.iload_n 1, 1) := by decide +kernel
theorem dX12_finds_34 : decode cX12_finds 34 = .ok (.iaload, 1) := by decide +kernel
theorem dX12_finds_35 : decode cX12_finds 35 = .ok (.sipush 200, 3) := by decide +kernel
theorem dX12_finds_38 : decode cX12_finds 38 = .ok (.if_icmp .ge 113, 3) := by decide +kernel
theorem dX12_finds_41 : decode cX12_finds 41 = .ok (.iconst (-1), 1) := by decide +kernel
theorem dX12_finds_42 : decode cX12_finds 42 = .ok (.istore 5, 2) := by decide +kernel
theorem dX12_finds_44 : decode cX12_finds 44 = .ok (.iload 5, 2) := by decide +kernel
theorem dX12_finds_46 : decode cX12_finds 46 = .ok (.iload_n 3, 1) := by decide +kernel
theorem dX12_finds_47 : decode cX12_finds 47 = .ok (.if_icmp .ge 98, 3) := by decide +kernel
theorem dX12_finds_50 : decode cX12_finds 50 = .ok (.aload_n 0, 1) := by decide +kernel
theorem dX12_finds_51 : decode cX12_finds 51 = .ok (.iload_n 2, 1) := by decide +kernel
theorem dX12_finds_52 : decode cX12_finds 52 = .ok (.iconst 0, 1) := by decide +kernel
theorem dX12_finds_53 : decode cX12_finds 53 = .ok (.iload 4, 2) := by decide +kernel
theorem dX12_finds_55 : decode cX12_finds 55 = .ok (.invokevirtual 147, 3) := by decide +kernel
theorem dX12_finds_58 : decode cX12_finds 58 = .ok (.ifCond .eq 87, 3) := by decide +kernel
theorem dX12_finds_61 : decode cX12_finds 61 = .ok (.aload_n 0, 1) := by decide +kernel
theorem dX12_finds_62 : decode cX12_finds 62 = .ok (.getfield 64, 3) := by decide +kernel
theorem dX12_finds_65 : decode cX12_finds 65 = .ok (.iload_n 1, 1) := by decide +kernel
theorem dX12_finds_66 : decode cX12_finds 66 = .ok (.iaload, 1) := by decide +kernel
theorem dX12_finds_67 : decode cX12_finds 67 = .ok (.sipush 200, 3) := by decide +kernel
theorem dX12_finds_70 : decode cX12_finds 70 = .ok (.if_icmp .ge 75, 3) := by decide +kernel
theorem dX12_finds_73 : decode cX12_finds 73 = .ok (.iconst (-1), 1) := by decide +kernel
theorem dX12_finds_74 : decode cX12_finds 74 = .ok (.istore 6, 2) := by decide +kernel
theorem dX12_finds_76 : decode cX12_finds 76 = .ok (.iload 6, 2) := by decide +kernel
theorem dX12_finds_78 : decode cX12_finds 78 = .ok (.iload_n 3, 1) := by decide +kernel
theorem dX12_finds_79 : decode cX12_finds 79 = .ok (.if_icmp .ge 60, 3) := by decide +kernel
theorem dX12_finds_82 : decode cX12_finds 82 = .ok (.aload_n 0, 1) := by decide +kernel
theorem dX12_finds_83 : decode cX12_finds 83 = .ok (.iload_n 2, 1) := by decide +kernel
theorem dX12_finds_84 : decode cX12_finds 84 = .ok (.iconst 1, 1) := by decide +kernel
theorem dX12_finds_85 : decode cX12_finds 85 = .ok (.iload 5, 2) := by decide +kernel
theorem dX12_finds_87 : decode cX12_finds 87 = .ok (.invokevirtual 147, 3) := by decide +kernel
theorem dX12_finds_90 : decode cX12_finds 90 = .ok (.ifCond .eq 49, 3) := by decide +kernel
theorem dX12_finds_93 : decode cX12_finds 93 = .ok (.aload_n 0, 1) := by decide +kernel
theorem dX12_finds_94 : decode cX12_finds 94 = .ok (.iload_n 2, 1) := by decide +kernel
theorem dX12_finds_95 : decode cX12_finds 95 = .ok (.iconst 2, 1) := by decide +kernel
theorem dX12_finds_96 : decode cX12_finds 96 = .ok (.iload 6, 2) := by decide +kernel
theorem dX12_finds_98 : decode cX12_finds 98 = .ok (.invokevirtual 147, 3) := by decide +kernel
theorem dX12_finds_101 : decode cX12_finds 101 = .ok (.ifCond .eq 32, 3) := by decide +kernel
theorem dX12_finds_104 : decode cX12_finds 104 = .ok (.aload_n 0, 1) := by decide +kernel
theorem dX12_finds_105 : decode cX12_finds 105 = .ok (.getfield 70, 3) := by decide +kernel
theorem dX12_finds_108 : decode cX12_finds 108 = .ok (.iconst 0, 1) := by decide +kernel
theorem dX12_finds_109 : decode cX12_finds 109 = .ok (.iload 4, 2) := by decide +kernel
theorem dX12_finds_111 : decode cX12_finds 111 = .ok (.iastore, 1) := by decide +kernel
theorem dX12_finds_112 : decode cX12_finds 112 = .ok (.aload_n 0, 1) := by decide +kernel
theorem dX12_finds_113 : decode cX12_finds 113 = .ok (.getfield 70, 3) := by decide +kernel
theorem dX12_finds_116 : decode cX12_finds 116 = .ok (.iconst 1, 1) := by decide +kernel
theorem dX12_finds_117 : decode cX12_finds 117 = .ok (.iload 5, 2) := by decide +kernel
theorem dX12_finds_119 : decode cX12_finds 119 = .ok (.iastore, 1) := by decide +kernel
theorem dX12_finds_120 : decode cX12_finds 120 = .ok (.aload_n 0, 1) := by decide +kernel
theorem dX12_finds_121 : decode cX12_finds 121 = .ok (.getfield 70, 3) := by decide +kernel
theorem dX12_finds_124 : decode cX12_finds 124 = .ok (.iconst 2, 1) := by decide +kernel
theorem dX12_finds_125 : decode cX12_finds 125 = .ok (.iload 6, 2) := by decide +kernel
theorem dX12_finds_127 : decode cX12_finds 127 = .ok (.iastore, 1) := by decide +kernel
theorem dX12_finds_128 : decode cX12_finds 128 = .ok (.aload_n 0, 1) := by decide +kernel
theorem dX12_finds_129 : decode cX12_finds 129 = .ok (.iload_n 1, 1) := by decide +kernel
theorem dX12_finds_130 : decode cX12_finds 130 = .ok (.invokevirtual 150, 3) := by decide +kernel
theorem dX12_finds_133 : decode cX12_finds 133 = .ok (.iinc 6 1, 3) := by decide +kernel
theorem dX12_finds_136 : decode cX12_finds 136 = .ok (.goto (-60), 3) := by decide +kernel
theorem dX12_finds_139 : decode cX12_finds 139 = .ok (.iinc 5 1, 3) := by decide +kernel
theorem dX12_finds_142 : decode cX12_finds 142 = .ok (.goto (-98), 3) := by decide +kernel
theorem dX12_finds_145 : decode cX12_finds 145 = .ok (.iinc 4 1, 3) := by decide +kernel
theorem dX12_finds_148 : decode cX12_finds 148 = .ok (.goto (-125), 3) := by decide +kernel
theorem dX12_finds_151 : decode cX12_finds 151 = .ok (.return_, 1) := by decide +kernel
theorem dX12_rule_0 : decode cX12_rule 0 = .ok (.aload_n 0, 1) := by decide +kernel
theorem dX12_rule_1 : decode cX12_rule 1 = .ok (.iload_n 1, 1) := by decide +kernel
theorem dX12_rule_2 : decode cX12_rule 2 = .ok (.invokevirtual 154, 3) := by decide +kernel
theorem dX12_rule_5 : decode cX12_rule 5 = .ok (.ifCond .eq 12, 3) := by decide +kernel
theorem dX12_rule_8 : decode cX12_rule 8 = .ok (.iload_n 2, 1) := by decide +kernel
theorem dX12_rule_9 : decode cX12_rule 9 = .ok (.iconst 0, 1) := by decide +kernel
theorem dX12_rule_10 : decode cX12_rule 10 = .ok (.iconst 4, 1) := by decide +kernel
theorem dX12_rule_11 : decode cX12_rule 11 = .ok (.invokestatic 79, 3) := by decide +kernel
theorem dX12_rule_14 : decode cX12_rule 14 = .ok (.ifCond .ne 10, 3) := by decide +kernel
theorem dX12_rule_17 : decode cX12_rule 17 = .ok (.aload_n 0, 1) := by decide +kernel
theorem dX12_rule_18 : decode cX12_rule 18 = .ok (.bipush (-2), 2) := by decide +kernel
theorem dX12_rule_20 : decode cX12_rule 20 = .ok (.invokevirtual 113, 3) := by decide +kernel
theorem dX12_rule_23 : decode cX12_rule 23 = .ok (.ireturn, 1) := by decide +kernel
theorem dX12_rule_24 : decode cX12_rule 24 = .ok (.iload_n 2, 1) := by decide +kernel
theorem dX12_rule_25 : decode cX12_rule 25 = .ok (.ifCond .ne 23, 3) := by decide +kernel
theorem dX12_rule_28 : decode cX12_rule 28 = .ok (.aload_n 0, 1) := by decide +kernel
theorem dX12_rule_29 : decode cX12_rule 29 = .ok (.iload_n 1, 1) := by decide +kernel
theorem dX12_rule_30 : decode cX12_rule 30 = .ok (.invokevirtual 144, 3) := by decide +kernel
theorem dX12_rule_33 : decode cX12_rule 33 = .ok (.istore_n 3, 1) := by decide +kernel
theorem dX12_rule_34 : decode cX12_rule 34 = .ok (.iload_n 3, 1) := by decide +kernel
theorem dX12_rule_35 : decode cX12_rule 35 = .ok (.iconst 1, 1) := by decide +kernel
theorem dX12_rule_36 : decode cX12_rule 36 = .ok (.iand, 1) := by decide +kernel
theorem dX12_rule_37 : decode cX12_rule 37 = .ok (.iload_n 3, 1) := by decide +kernel
theorem dX12_rule_38 : decode cX12_rule 38 = .ok (.iconst 1, 1) := by decide +kernel
theorem dX12_rule_39 : decode cX12_rule 39 = .ok (.ishr, 1) := by decide +kernel
theorem dX12_rule_40 : decode cX12_rule 40 = .ok (.iconst 1, 1) := by decide +kernel
theorem dX12_rule_41 : decode cX12_rule 41 = .ok (.iand, 1) := by decide +kernel
theorem dX12_rule_42 : decode cX12_rule 42 = .ok (.iadd, 1) := by decide +kernel
theorem dX12_rule_43 : decode cX12_rule 43 = .ok (.iload_n 3, 1) := by decide +kernel
theorem dX12_rule_44 : decode cX12_rule 44 = .ok (.iconst 2, 1) := by decide +kernel
theorem dX12_rule_45 : decode cX12_rule 45 = .ok (.ishr, 1) := by decide +kernel
theorem dX12_rule_46 : decode cX12_rule 46 = .ok (.iadd, 1) := by decide +kernel
theorem dX12_rule_47 : decode cX12_rule 47 = .ok (.ireturn, 1) := by decide +kernel
theorem dX12_rule_48 : decode cX12_rule 48 = .ok (.iload_n 2, 1) := by decide +kernel
theorem dX12_rule_49 : decode cX12_rule 49 = .ok (.iconst 3, 1) := by decide +kernel
theorem dX12_rule_50 : decode cX12_rule 50 = .ok (.if_icmp .ge 19, 3) := by decide +kernel
theorem dX12_rule_53 : decode cX12_rule 53 = .ok (.aload_n 0, 1) := by decide +kernel
theorem dX12_rule_54 : decode cX12_rule 54 = .ok (.iload_n 1, 1) := by decide +kernel
theorem dX12_rule_55 : decode cX12_rule 55 = .ok (.iload_n 2, 1) := by decide +kernel
theorem dX12_rule_56 : decode cX12_rule 56 = .ok (.iconst 1, 1) := by decide +kernel
theorem dX12_rule_57 : decode cX12_rule 57 = .ok (.if_icmp .ne 7, 3) := by decide +kernel
theorem dX12_rule_60 : decode cX12_rule 60 = .ok (.iconst 1, 1) := by decide +kernel
theorem dX12_rule_61 : decode cX12_rule 61 = .ok (.goto 4, 3) := by decide +kernel
theorem dX12_rule_64 : decode cX12_rule 64 = .ok (.iconst 0, 1) := by decide +kernel
theorem dX12_rule_65 : decode cX12_rule 65 = .ok (.invokevirtual 157, 3) := by decide +kernel
theorem dX12_rule_68 : decode cX12_rule 68 = .ok (.ireturn, 1) := by decide +kernel
theorem dX12_rule_69 : decode cX12_rule 69 = .ok (.aload_n 0, 1) := by decide +kernel
theorem dX12_rule_70 : decode cX12_rule 70 = .ok (.invokevirtual 160, 3) := by decide +kernel
theorem dX12_rule_73 : decode cX12_rule 73 = .ok (.aload_n 0, 1) := by decide +kernel
theorem dX12_rule_74 : decode cX12_rule 74 = .ok (.iload_n 1, 1) := by decide +kernel
theorem dX12_rule_75 : decode cX12_rule 75 = .ok (.invokevirtual 163, 3) := by decide +kernel
theorem dX12_rule_78 : decode cX12_rule 78 = .ok (.iconst 0, 1) := by decide +kernel
theorem dX12_rule_79 : decode cX12_rule 79 = .ok (.istore_n 3, 1) := by decide +kernel
theorem dX12_rule_80 : decode cX12_rule 80 = .ok (.iconst 0, 1) := by decide +kernel
theorem dX12_rule_81 : decode cX12_rule 81 = .ok (.istore 4, 2) := by decide +kernel
theorem dX12_rule_83 : decode cX12_rule 83 = .ok (.iload 4, 2) := by decide +kernel
theorem dX12_rule_85 : decode cX12_rule 85 = .ok (.aload_n 0, 1) := by decide +kernel
theorem dX12_rule_86 : decode cX12_rule 86 = .ok (.getfield 64, 3) := by decide +kernel
theorem dX12_rule_89 : decode cX12_rule 89 = .ok (.iload_n 1, 1) := by decide +kernel
theorem dX12_rule_90 : decode cX12_rule 90 = .ok (.iaload, 1) := by decide +kernel
theorem dX12_rule_91 : decode cX12_rule 91 = .ok (.if_icmp .ge 48, 3) := by decide +kernel
theorem dX12_rule_94 : decode cX12_rule 94 = .ok (.iload_n 3, 1) := by decide +kernel
theorem dX12_rule_95 : decode cX12_rule 95 = .ok (.iload_n 2, 1) := by decide +kernel
theorem dX12_rule_96 : decode cX12_rule 96 = .ok (.iconst 3, 1) := by decide +kernel
theorem dX12_rule_97 : decode cX12_rule 97 = .ok (.if_icmp .eq 29, 3) := by decide +kernel
theorem dX12_rule_100 : decode cX12_rule 100 = .ok (.aload_n 0, 1) := by decide +kernel
theorem dX12_rule_101 : decode cX12_rule 101 = .ok (.getfield 61, 3) := by decide +kernel
theorem dX12_rule_104 : decode cX12_rule 104 = .ok (.sipush 1000, 3) := by decide +kernel
theorem dX12_rule_107 : decode cX12_rule 107 = .ok (.iload_n 1, 1) := by decide +kernel
theorem dX12_rule_108 : decode cX12_rule 108 = .ok (.imul, 1) := by decide +kernel
theorem dX12_rule_109 : decode cX12_rule 109 = .ok (.iconst 5, 1) := by decide +kernel
theorem dX12_rule_110 : decode cX12_rule 110 = .ok (.iload 4, 2) := by decide +kernel
theorem dX12_rule_112 : decode cX12_rule 112 = .ok (.imul, 1) := by decide +kernel
theorem dX12_rule_113 : decode cX12_rule 113 = .ok (.iadd, 1) := by decide +kernel
theorem dX12_rule_114 : decode cX12_rule 114 = .ok (.iconst 4, 1) := by decide +kernel
theorem dX12_rule_115 : decode cX12_rule 115 = .ok (.iadd, 1) := by decide +kernel
theorem dX12_rule_116 : decode cX12_rule 116 = .ok (.iaload, 1) := by decide +kernel
theorem dX12_rule_117 : decode cX12_rule 117 = .ok (.aload_n 0, 1) := by decide +kernel
theorem dX12_rule_118 : decode cX12_rule 118 = .ok (.getfield 19, 3) := by decide +kernel
theorem dX12_rule_121 : decode cX12_rule 121 = .ok (.iconst 1, 1) := by decide +kernel
theorem dX12_rule_122 : decode cX12_rule 122 = .ok (.iaload, 1) := by decide +kernel
theorem dX12_rule_123 : decode cX12_rule 123 = .ok (.if_icmp .gt 7, 3) := by decide +kernel
theorem dX12_rule_126 : decode cX12_rule 126 = .ok (.iconst 1, 1) := by decide +kernel
theorem dX12_rule_127 : decode cX12_rule 127 = .ok (.goto 4, 3) := by decide +kernel
theorem dX12_rule_130 : decode cX12_rule 130 = .ok (.iconst 0, 1) := by decide +kernel
theorem dX12_rule_131 : decode cX12_rule 131 = .ok (.iadd, 1) := by decide +kernel
theorem dX12_rule_132 : decode cX12_rule 132 = .ok (.istore_n 3, 1) := by decide +kernel
theorem dX12_rule_133 : decode cX12_rule 133 = .ok (.iinc 4 1, 3) := by decide +kernel
theorem dX12_rule_136 : decode cX12_rule 136 = .ok (.goto (-53), 3) := by decide +kernel
theorem dX12_rule_139 : decode cX12_rule 139 = .ok (.iload_n 3, 1) := by decide +kernel
theorem dX12_rule_140 : decode cX12_rule 140 = .ok (.ireturn, 1) := by decide +kernel
theorem dX12_finding_0 : decode cX12_finding 0 = .ok (.aload_n 0, 1) := by decide +kernel
theorem dX12_finding_1 : decode cX12_finding 1 = .ok (.iload_n 1, 1) := by decide +kernel
theorem dX12_finding_2 : decode cX12_finding 2 = .ok (.invokevirtual 154, 3) := by decide +kernel
theorem dX12_finding_5 : decode cX12_finding 5 = .ok (.ifCond .eq 16, 3) := by decide +kernel
theorem dX12_finding_8 : decode cX12_finding 8 = .ok (.iload_n 2, 1) := by decide +kernel
theorem dX12_finding_9 : decode cX12_finding 9 = .ok (.ifCond .lt 12, 3) := by decide +kernel
theorem dX12_finding_12 : decode cX12_finding 12 = .ok (.iload_n 3, 1) := by decide +kernel
theorem dX12_finding_13 : decode cX12_finding 13 = .ok (.iconst 0, 1) := by decide +kernel
theorem dX12_finding_14 : decode cX12_finding 14 = .ok (.iconst 4, 1) := by decide +kernel
theorem dX12_finding_15 : decode cX12_finding 15 = .ok (.invokestatic 79, 3) := by decide +kernel
theorem dX12_finding_18 : decode cX12_finding 18 = .ok (.ifCond .ne 10, 3) := by decide +kernel
theorem dX12_finding_21 : decode cX12_finding 21 = .ok (.aload_n 0, 1) := by decide +kernel
theorem dX12_finding_22 : decode cX12_finding 22 = .ok (.bipush (-2), 2) := by decide +kernel
theorem dX12_finding_24 : decode cX12_finding 24 = .ok (.invokevirtual 113, 3) := by decide +kernel
theorem dX12_finding_27 : decode cX12_finding 27 = .ok (.ireturn, 1) := by decide +kernel
theorem dX12_finding_28 : decode cX12_finding 28 = .ok (.aload_n 0, 1) := by decide +kernel
theorem dX12_finding_29 : decode cX12_finding 29 = .ok (.invokevirtual 160, 3) := by decide +kernel
theorem dX12_finding_32 : decode cX12_finding 32 = .ok (.aload_n 0, 1) := by decide +kernel
theorem dX12_finding_33 : decode cX12_finding 33 = .ok (.iload_n 1, 1) := by decide +kernel
theorem dX12_finding_34 : decode cX12_finding 34 = .ok (.invokevirtual 163, 3) := by decide +kernel
theorem dX12_finding_37 : decode cX12_finding 37 = .ok (.iload_n 2, 1) := by decide +kernel
theorem dX12_finding_38 : decode cX12_finding 38 = .ok (.aload_n 0, 1) := by decide +kernel
theorem dX12_finding_39 : decode cX12_finding 39 = .ok (.getfield 64, 3) := by decide +kernel
theorem dX12_finding_42 : decode cX12_finding 42 = .ok (.iload_n 1, 1) := by decide +kernel
theorem dX12_finding_43 : decode cX12_finding 43 = .ok (.iaload, 1) := by decide +kernel
theorem dX12_finding_44 : decode cX12_finding 44 = .ok (.if_icmp .ge 22, 3) := by decide +kernel
theorem dX12_finding_47 : decode cX12_finding 47 = .ok (.aload_n 0, 1) := by decide +kernel
theorem dX12_finding_48 : decode cX12_finding 48 = .ok (.getfield 61, 3) := by decide +kernel
theorem dX12_finding_51 : decode cX12_finding 51 = .ok (.sipush 1000, 3) := by decide +kernel
theorem dX12_finding_54 : decode cX12_finding 54 = .ok (.iload_n 1, 1) := by decide +kernel
theorem dX12_finding_55 : decode cX12_finding 55 = .ok (.imul, 1) := by decide +kernel
theorem dX12_finding_56 : decode cX12_finding 56 = .ok (.iconst 5, 1) := by decide +kernel
theorem dX12_finding_57 : decode cX12_finding 57 = .ok (.iload_n 2, 1) := by decide +kernel
theorem dX12_finding_58 : decode cX12_finding 58 = .ok (.imul, 1) := by decide +kernel
theorem dX12_finding_59 : decode cX12_finding 59 = .ok (.iadd, 1) := by decide +kernel
theorem dX12_finding_60 : decode cX12_finding 60 = .ok (.iload_n 3, 1) := by decide +kernel
theorem dX12_finding_61 : decode cX12_finding 61 = .ok (.iadd, 1) := by decide +kernel
theorem dX12_finding_62 : decode cX12_finding 62 = .ok (.iaload, 1) := by decide +kernel
theorem dX12_finding_63 : decode cX12_finding 63 = .ok (.goto 4, 3) := by decide +kernel
theorem dX12_finding_66 : decode cX12_finding 66 = .ok (.iconst (-1), 1) := by decide +kernel
theorem dX12_finding_67 : decode cX12_finding 67 = .ok (.ireturn, 1) := by decide +kernel
theorem dX12_drop_0 : decode cX12_drop 0 = .ok (.aload_n 0, 1) := by decide +kernel
theorem dX12_drop_1 : decode cX12_drop 1 = .ok (.iload_n 1, 1) := by decide +kernel
theorem dX12_drop_2 : decode cX12_drop 2 = .ok (.invokevirtual 154, 3) := by decide +kernel
theorem dX12_drop_5 : decode cX12_drop 5 = .ok (.ifCond .ne 10, 3) := by decide +kernel
theorem dX12_drop_8 : decode cX12_drop 8 = .ok (.aload_n 0, 1) := by decide +kernel
theorem dX12_drop_9 : decode cX12_drop 9 = .ok (.bipush (-2), 2) := by decide +kernel
theorem dX12_drop_11 : decode cX12_drop 11 = .ok (.invokevirtual 113, 3) := by decide +kernel
theorem dX12_drop_14 : decode cX12_drop 14 = .ok (.ireturn, 1) := by decide +kernel
theorem dX12_drop_15 : decode cX12_drop 15 = .ok (.aload_n 0, 1) := by decide +kernel
theorem dX12_drop_16 : decode cX12_drop 16 = .ok (.invokevirtual 116, 3) := by decide +kernel
theorem dX12_drop_19 : decode cX12_drop 19 = .ok (.iload_n 1, 1) := by decide +kernel
theorem dX12_drop_20 : decode cX12_drop 20 = .ok (.istore_n 2, 1) := by decide +kernel
theorem dX12_drop_21 : decode cX12_drop 21 = .ok (.iload_n 2, 1) := by decide +kernel
theorem dX12_drop_22 : decode cX12_drop 22 = .ok (.iconst 1, 1) := by decide +kernel
theorem dX12_drop_23 : decode cX12_drop 23 = .ok (.iadd, 1) := by decide +kernel
theorem dX12_drop_24 : decode cX12_drop 24 = .ok (.aload_n 0, 1) := by decide +kernel
theorem dX12_drop_25 : decode cX12_drop 25 = .ok (.getfield 7, 3) := by decide +kernel
theorem dX12_drop_28 : decode cX12_drop 28 = .ok (.iconst 1, 1) := by decide +kernel
theorem dX12_drop_29 : decode cX12_drop 29 = .ok (.iaload, 1) := by decide +kernel
theorem dX12_drop_30 : decode cX12_drop 30 = .ok (.if_icmp .ge 99, 3) := by decide +kernel
theorem dX12_drop_33 : decode cX12_drop 33 = .ok (.aload_n 0, 1) := by decide +kernel
theorem dX12_drop_34 : decode cX12_drop 34 = .ok (.getfield 7, 3) := by decide +kernel
theorem dX12_drop_37 : decode cX12_drop 37 = .ok (.sipush 252, 3) := by decide +kernel
theorem dX12_drop_40 : decode cX12_drop 40 = .ok (.iload_n 2, 1) := by decide +kernel
theorem dX12_drop_41 : decode cX12_drop 41 = .ok (.iadd, 1) := by decide +kernel
theorem dX12_drop_42 : decode cX12_drop 42 = .ok (.aload_n 0, 1) := by decide +kernel
theorem dX12_drop_43 : decode cX12_drop 43 = .ok (.getfield 7, 3) := by decide +kernel
theorem dX12_drop_46 : decode cX12_drop 46 = .ok (.sipush 252, 3) := by decide +kernel
theorem dX12_drop_49 : decode cX12_drop 49 = .ok (.iload_n 2, 1) := by decide +kernel
theorem dX12_drop_50 : decode cX12_drop 50 = .ok (.iadd, 1) := by decide +kernel
theorem dX12_drop_51 : decode cX12_drop 51 = .ok (.iconst 1, 1) := by decide +kernel
theorem dX12_drop_52 : decode cX12_drop 52 = .ok (.iadd, 1) := by decide +kernel
theorem dX12_drop_53 : decode cX12_drop 53 = .ok (.iaload, 1) := by decide +kernel
theorem dX12_drop_54 : decode cX12_drop 54 = .ok (.iastore, 1) := by decide +kernel
theorem dX12_drop_55 : decode cX12_drop 55 = .ok (.aload_n 0, 1) := by decide +kernel
theorem dX12_drop_56 : decode cX12_drop 56 = .ok (.getfield 7, 3) := by decide +kernel
theorem dX12_drop_59 : decode cX12_drop 59 = .ok (.sipush 258, 3) := by decide +kernel
theorem dX12_drop_62 : decode cX12_drop 62 = .ok (.iload_n 2, 1) := by decide +kernel
theorem dX12_drop_63 : decode cX12_drop 63 = .ok (.iadd, 1) := by decide +kernel
theorem dX12_drop_64 : decode cX12_drop 64 = .ok (.aload_n 0, 1) := by decide +kernel
theorem dX12_drop_65 : decode cX12_drop 65 = .ok (.getfield 7, 3) := by decide +kernel
theorem dX12_drop_68 : decode cX12_drop 68 = .ok (.sipush 258, 3) := by decide +kernel
theorem dX12_drop_71 : decode cX12_drop 71 = .ok (.iload_n 2, 1) := by decide +kernel
theorem dX12_drop_72 : decode cX12_drop 72 = .ok (.iadd, 1) := by decide +kernel
theorem dX12_drop_73 : decode cX12_drop 73 = .ok (.iconst 1, 1) := by decide +kernel
theorem dX12_drop_74 : decode cX12_drop 74 = .ok (.iadd, 1) := by decide +kernel
theorem dX12_drop_75 : decode cX12_drop 75 = .ok (.iaload, 1) := by decide +kernel
theorem dX12_drop_76 : decode cX12_drop 76 = .ok (.iastore, 1) := by decide +kernel
theorem dX12_drop_77 : decode cX12_drop 77 = .ok (.iconst 0, 1) := by decide +kernel
theorem dX12_drop_78 : decode cX12_drop 78 = .ok (.istore_n 3, 1) := by decide +kernel
theorem dX12_drop_79 : decode cX12_drop 79 = .ok (.iload_n 3, 1) := by decide +kernel
theorem dX12_drop_80 : decode cX12_drop 80 = .ok (.bipush 120, 2) := by decide +kernel
theorem dX12_drop_82 : decode cX12_drop 82 = .ok (.if_icmp .ge 41, 3) := by decide +kernel
theorem dX12_drop_85 : decode cX12_drop 85 = .ok (.aload_n 0, 1) := by decide +kernel
theorem dX12_drop_86 : decode cX12_drop 86 = .ok (.getfield 7, 3) := by decide +kernel
theorem dX12_drop_89 : decode cX12_drop 89 = .ok (.sipush 264, 3) := by decide +kernel
theorem dX12_drop_92 : decode cX12_drop 92 = .ok (.bipush 120, 2) := by decide +kernel
theorem dX12_drop_94 : decode cX12_drop 94 = .ok (.iload_n 2, 1) := by decide +kernel
theorem dX12_drop_95 : decode cX12_drop 95 = .ok (.imul, 1) := by decide +kernel
theorem dX12_drop_96 : decode cX12_drop 96 = .ok (.iadd, 1) := by decide +kernel
theorem dX12_drop_97 : decode cX12_drop 97 = .ok (.iload_n 3, 1) := by decide +kernel
theorem dX12_drop_98 : decode cX12_drop 98 = .ok (.iadd, 1) := by decide +kernel
theorem dX12_drop_99 : decode cX12_drop 99 = .ok (.aload_n 0, 1) := by decide +kernel
theorem dX12_drop_100 : decode cX12_drop 100 = .ok (.getfield 7, 3) := by decide +kernel
theorem dX12_drop_103 : decode cX12_drop 103 = .ok (.sipush 264, 3) := by decide +kernel
theorem dX12_drop_106 : decode cX12_drop 106 = .ok (.bipush 120, 2) := by decide +kernel
theorem dX12_drop_108 : decode cX12_drop 108 = .ok (.iload_n 2, 1) := by decide +kernel
theorem dX12_drop_109 : decode cX12_drop 109 = .ok (.iconst 1, 1) := by decide +kernel
theorem dX12_drop_110 : decode cX12_drop 110 = .ok (.iadd, 1) := by decide +kernel
theorem dX12_drop_111 : decode cX12_drop 111 = .ok (.imul, 1) := by decide +kernel
theorem dX12_drop_112 : decode cX12_drop 112 = .ok (.iadd, 1) := by decide +kernel
theorem dX12_drop_113 : decode cX12_drop 113 = .ok (.iload_n 3, 1) := by decide +kernel
theorem dX12_drop_114 : decode cX12_drop 114 = .ok (.iadd, 1) := by decide +kernel
theorem dX12_drop_115 : decode cX12_drop 115 = .ok (.iaload, 1) := by decide +kernel
theorem dX12_drop_116 : decode cX12_drop 116 = .ok (.iastore, 1) := by decide +kernel
theorem dX12_drop_117 : decode cX12_drop 117 = .ok (.iinc 3 1, 3) := by decide +kernel
theorem dX12_drop_120 : decode cX12_drop 120 = .ok (.goto (-41), 3) := by decide +kernel
theorem dX12_drop_123 : decode cX12_drop 123 = .ok (.iinc 2 1, 3) := by decide +kernel
theorem dX12_drop_126 : decode cX12_drop 126 = .ok (.goto (-105), 3) := by decide +kernel
theorem dX12_drop_129 : decode cX12_drop 129 = .ok (.aload_n 0, 1) := by decide +kernel
theorem dX12_drop_130 : decode cX12_drop 130 = .ok (.getfield 7, 3) := by decide +kernel
theorem dX12_drop_133 : decode cX12_drop 133 = .ok (.iconst 1, 1) := by decide +kernel
theorem dX12_drop_134 : decode cX12_drop 134 = .ok (.dup2, 1) := by decide +kernel
theorem dX12_drop_135 : decode cX12_drop 135 = .ok (.iaload, 1) := by decide +kernel
theorem dX12_drop_136 : decode cX12_drop 136 = .ok (.iconst 1, 1) := by decide +kernel
theorem dX12_drop_137 : decode cX12_drop 137 = .ok (.isub, 1) := by decide +kernel
theorem dX12_drop_138 : decode cX12_drop 138 = .ok (.iastore, 1) := by decide +kernel
theorem dX12_drop_139 : decode cX12_drop 139 = .ok (.aload_n 0, 1) := by decide +kernel
theorem dX12_drop_140 : decode cX12_drop 140 = .ok (.getfield 7, 3) := by decide +kernel
theorem dX12_drop_143 : decode cX12_drop 143 = .ok (.iconst 1, 1) := by decide +kernel
theorem dX12_drop_144 : decode cX12_drop 144 = .ok (.iaload, 1) := by decide +kernel
theorem dX12_drop_145 : decode cX12_drop 145 = .ok (.ireturn, 1) := by decide +kernel
theorem dX12_sets_0 : decode cX12_sets 0 = .ok (.iload_n 1, 1) := by decide +kernel
theorem dX12_sets_1 : decode cX12_sets 1 = .ok (.iconst 0, 1) := by decide +kernel
theorem dX12_sets_2 : decode cX12_sets 2 = .ok (.iconst 1, 1) := by decide +kernel
theorem dX12_sets_3 : decode cX12_sets 3 = .ok (.invokestatic 79, 3) := by decide +kernel
theorem dX12_sets_6 : decode cX12_sets 6 = .ok (.ifCond .eq 21, 3) := by decide +kernel
theorem dX12_sets_9 : decode cX12_sets 9 = .ok (.iload_n 2, 1) := by decide +kernel
theorem dX12_sets_10 : decode cX12_sets 10 = .ok (.iconst 0, 1) := by decide +kernel
theorem dX12_sets_11 : decode cX12_sets 11 = .ok (.iload_n 1, 1) := by decide +kernel
theorem dX12_sets_12 : decode cX12_sets 12 = .ok (.ifCond .ne 7, 3) := by decide +kernel
theorem dX12_sets_15 : decode cX12_sets 15 = .ok (.iconst 3, 1) := by decide +kernel
theorem dX12_sets_16 : decode cX12_sets 16 = .ok (.goto 5, 3) := by decide +kernel
theorem dX12_sets_19 : decode cX12_sets 19 = .ok (.bipush 9, 2) := by decide +kernel
theorem dX12_sets_21 : decode cX12_sets 21 = .ok (.invokestatic 79, 3) := by decide +kernel
theorem dX12_sets_24 : decode cX12_sets 24 = .ok (.ifCond .ne 10, 3) := by decide +kernel
theorem dX12_sets_27 : decode cX12_sets 27 = .ok (.aload_n 0, 1) := by decide +kernel
theorem dX12_sets_28 : decode cX12_sets 28 = .ok (.bipush (-2), 2) := by decide +kernel
theorem dX12_sets_30 : decode cX12_sets 30 = .ok (.invokevirtual 113, 3) := by decide +kernel
theorem dX12_sets_33 : decode cX12_sets 33 = .ok (.ireturn, 1) := by decide +kernel
theorem dX12_sets_34 : decode cX12_sets 34 = .ok (.aload_n 0, 1) := by decide +kernel
theorem dX12_sets_35 : decode cX12_sets 35 = .ok (.getfield 19, 3) := by decide +kernel
theorem dX12_sets_38 : decode cX12_sets 38 = .ok (.iload_n 1, 1) := by decide +kernel
theorem dX12_sets_39 : decode cX12_sets 39 = .ok (.iaload, 1) := by decide +kernel
theorem dX12_sets_40 : decode cX12_sets 40 = .ok (.istore_n 3, 1) := by decide +kernel
theorem dX12_sets_41 : decode cX12_sets 41 = .ok (.aload_n 0, 1) := by decide +kernel
theorem dX12_sets_42 : decode cX12_sets 42 = .ok (.getfield 19, 3) := by decide +kernel
theorem dX12_sets_45 : decode cX12_sets 45 = .ok (.iload_n 1, 1) := by decide +kernel
theorem dX12_sets_46 : decode cX12_sets 46 = .ok (.iload_n 2, 1) := by decide +kernel
theorem dX12_sets_47 : decode cX12_sets 47 = .ok (.iastore, 1) := by decide +kernel
theorem dX12_sets_48 : decode cX12_sets 48 = .ok (.iload_n 3, 1) := by decide +kernel
theorem dX12_sets_49 : decode cX12_sets 49 = .ok (.ireturn, 1) := by decide +kernel
theorem dX12_waiting_0 : decode cX12_waiting 0 = .ok (.iload_n 2, 1) := by decide +kernel
theorem dX12_waiting_1 : decode cX12_waiting 1 = .ok (.istore 4, 2) := by decide +kernel
theorem dX12_waiting_3 : decode cX12_waiting 3 = .ok (.iload_n 1, 1) := by decide +kernel
theorem dX12_waiting_4 : decode cX12_waiting 4 = .ok (.istore 5, 2) := by decide +kernel
theorem dX12_waiting_6 : decode cX12_waiting 6 = .ok (.iload 5, 2) := by decide +kernel
theorem dX12_waiting_8 : decode cX12_waiting 8 = .ok (.ifCond .le 108, 3) := by decide +kernel
theorem dX12_waiting_11 : decode cX12_waiting 11 = .ok (.aload_n 0, 1) := by decide +kernel
theorem dX12_waiting_12 : decode cX12_waiting 12 = .ok (.getfield 40, 3) := by decide +kernel
theorem dX12_waiting_15 : decode cX12_waiting 15 = .ok (.iload 5, 2) := by decide +kernel
theorem dX12_waiting_17 : decode cX12_waiting 17 = .ok (.iconst 1, 1) := by decide +kernel
theorem dX12_waiting_18 : decode cX12_waiting 18 = .ok (.isub, 1) := by decide +kernel
theorem dX12_waiting_19 : decode cX12_waiting 19 = .ok (.iaload, 1) := by decide +kernel
theorem dX12_waiting_20 : decode cX12_waiting 20 = .ok (.bipush 6, 2) := by decide +kernel
theorem dX12_waiting_22 : decode cX12_waiting 22 = .ok (.if_icmp .ne 34, 3) := by decide +kernel
theorem dX12_waiting_25 : decode cX12_waiting 25 = .ok (.aload_n 0, 1) := by decide +kernel
theorem dX12_waiting_26 : decode cX12_waiting 26 = .ok (.getfield 43, 3) := by decide +kernel
theorem dX12_waiting_29 : decode cX12_waiting 29 = .ok (.iload 5, 2) := by decide +kernel
theorem dX12_waiting_31 : decode cX12_waiting 31 = .ok (.iconst 1, 1) := by decide +kernel
theorem dX12_waiting_32 : decode cX12_waiting 32 = .ok (.isub, 1) := by decide +kernel
theorem dX12_waiting_33 : decode cX12_waiting 33 = .ok (.iaload, 1) := by decide +kernel
theorem dX12_waiting_34 : decode cX12_waiting 34 = .ok (.ifCond .ge 22, 3) := by decide +kernel
theorem dX12_waiting_37 : decode cX12_waiting 37 = .ok (.aload_n 0, 1) := by decide +kernel
theorem dX12_waiting_38 : decode cX12_waiting 38 = .ok (.getfield 43, 3) := by decide +kernel
theorem dX12_waiting_41 : decode cX12_waiting 41 = .ok (.iload 5, 2) := by decide +kernel
theorem dX12_waiting_43 : decode cX12_waiting 43 = .ok (.iconst 1, 1) := by decide +kernel
theorem dX12_waiting_44 : decode cX12_waiting 44 = .ok (.isub, 1) := by decide +kernel
theorem dX12_waiting_45 : decode cX12_waiting 45 = .ok (.iload 4, 2) := by decide +kernel
theorem dX12_waiting_47 : decode cX12_waiting 47 = .ok (.iastore, 1) := by decide +kernel
theorem dX12_waiting_48 : decode cX12_waiting 48 = .ok (.aload_n 0, 1) := by decide +kernel
theorem dX12_waiting_49 : decode cX12_waiting 49 = .ok (.iload 5, 2) := by decide +kernel
theorem dX12_waiting_51 : decode cX12_waiting 51 = .ok (.putfield 166, 3) := by decide +kernel
theorem dX12_waiting_54 : decode cX12_waiting 54 = .ok (.iconst (-1), 1) := by decide +kernel
theorem dX12_waiting_55 : decode cX12_waiting 55 = .ok (.ireturn, 1) := by decide +kernel
theorem dX12_waiting_56 : decode cX12_waiting 56 = .ok (.iinc 5 (-1), 3) := by decide +kernel
theorem dX12_waiting_59 : decode cX12_waiting 59 = .ok (.aload_n 0, 1) := by decide +kernel
theorem dX12_waiting_60 : decode cX12_waiting 60 = .ok (.getfield 40, 3) := by decide +kernel
theorem dX12_waiting_63 : decode cX12_waiting 63 = .ok (.iload 5, 2) := by decide +kernel
theorem dX12_waiting_65 : decode cX12_waiting 65 = .ok (.iaload, 1) := by decide +kernel
theorem dX12_waiting_66 : decode cX12_waiting 66 = .ok (.bipush 6, 2) := by decide +kernel
theorem dX12_waiting_68 : decode cX12_waiting 68 = .ok (.if_icmp .ne 22, 3) := by decide +kernel
theorem dX12_waiting_71 : decode cX12_waiting 71 = .ok (.aload_n 0, 1) := by decide +kernel
theorem dX12_waiting_72 : decode cX12_waiting 72 = .ok (.bipush 6, 2) := by decide +kernel
theorem dX12_waiting_74 : decode cX12_waiting 74 = .ok (.aload_n 0, 1) := by decide +kernel
theorem dX12_waiting_75 : decode cX12_waiting 75 = .ok (.getfield 43, 3) := by decide +kernel
theorem dX12_waiting_78 : decode cX12_waiting 78 = .ok (.iload 5, 2) := by decide +kernel
theorem dX12_waiting_80 : decode cX12_waiting 80 = .ok (.iaload, 1) := by decide +kernel
theorem dX12_waiting_81 : decode cX12_waiting 81 = .ok (.iload 4, 2) := by decide +kernel
theorem dX12_waiting_83 : decode cX12_waiting 83 = .ok (.iload_n 3, 1) := by decide +kernel
theorem dX12_waiting_84 : decode cX12_waiting 84 = .ok (.invokevirtual 119, 3) := by decide +kernel
theorem dX12_waiting_87 : decode cX12_waiting 87 = .ok (.goto 18, 3) := by decide +kernel
theorem dX12_waiting_90 : decode cX12_waiting 90 = .ok (.aload_n 0, 1) := by decide +kernel
theorem dX12_waiting_91 : decode cX12_waiting 91 = .ok (.aload_n 0, 1) := by decide +kernel
theorem dX12_waiting_92 : decode cX12_waiting 92 = .ok (.getfield 40, 3) := by decide +kernel
theorem dX12_waiting_95 : decode cX12_waiting 95 = .ok (.iload 5, 2) := by decide +kernel
theorem dX12_waiting_97 : decode cX12_waiting 97 = .ok (.iaload, 1) := by decide +kernel
theorem dX12_waiting_98 : decode cX12_waiting 98 = .ok (.iload 4, 2) := by decide +kernel
theorem dX12_waiting_100 : decode cX12_waiting 100 = .ok (.iconst (-1), 1) := by decide +kernel
theorem dX12_waiting_101 : decode cX12_waiting 101 = .ok (.iload_n 3, 1) := by decide +kernel
theorem dX12_waiting_102 : decode cX12_waiting 102 = .ok (.invokevirtual 119, 3) := by decide +kernel
theorem dX12_waiting_105 : decode cX12_waiting 105 = .ok (.istore 4, 2) := by decide +kernel
theorem dX12_waiting_107 : decode cX12_waiting 107 = .ok (.aload_n 0, 1) := by decide +kernel
theorem dX12_waiting_108 : decode cX12_waiting 108 = .ok (.iload 4, 2) := by decide +kernel
theorem dX12_waiting_110 : decode cX12_waiting 110 = .ok (.invokevirtual 169, 3) := by decide +kernel
theorem dX12_waiting_113 : decode cX12_waiting 113 = .ok (.goto (-107), 3) := by decide +kernel
theorem dX12_waiting_116 : decode cX12_waiting 116 = .ok (.aload_n 0, 1) := by decide +kernel
theorem dX12_waiting_117 : decode cX12_waiting 117 = .ok (.iconst 0, 1) := by decide +kernel
theorem dX12_waiting_118 : decode cX12_waiting 118 = .ok (.putfield 166, 3) := by decide +kernel
theorem dX12_waiting_121 : decode cX12_waiting 121 = .ok (.iload 4, 2) := by decide +kernel
theorem dX12_waiting_123 : decode cX12_waiting 123 = .ok (.ireturn, 1) := by decide +kernel
theorem dX12_made_0 : decode cX12_made 0 = .ok (.aload_n 0, 1) := by decide +kernel
theorem dX12_made_1 : decode cX12_made 1 = .ok (.getfield 7, 3) := by decide +kernel
theorem dX12_made_4 : decode cX12_made 4 = .ok (.sipush 152, 3) := by decide +kernel
theorem dX12_made_7 : decode cX12_made 7 = .ok (.iload_n 1, 1) := by decide +kernel
theorem dX12_made_8 : decode cX12_made 8 = .ok (.iadd, 1) := by decide +kernel
theorem dX12_made_9 : decode cX12_made 9 = .ok (.aload_n 0, 1) := by decide +kernel
theorem dX12_made_10 : decode cX12_made 10 = .ok (.getfield 172, 3) := by decide +kernel
theorem dX12_made_13 : decode cX12_made 13 = .ok (.ifCond .eq 7, 3) := by decide +kernel
theorem dX12_made_16 : decode cX12_made 16 = .ok (.iconst 0, 1) := by decide +kernel
theorem dX12_made_17 : decode cX12_made 17 = .ok (.goto 13, 3) := by decide +kernel
theorem dX12_made_20 : decode cX12_made 20 = .ok (.aload_n 0, 1) := by decide +kernel
theorem dX12_made_21 : decode cX12_made 21 = .ok (.getfield 7, 3) := by decide +kernel
theorem dX12_made_24 : decode cX12_made 24 = .ok (.sipush 152, 3) := by decide +kernel
theorem dX12_made_27 : decode cX12_made 27 = .ok (.iload_n 1, 1) := by decide +kernel
theorem dX12_made_28 : decode cX12_made 28 = .ok (.iadd, 1) := by decide +kernel
theorem dX12_made_29 : decode cX12_made 29 = .ok (.iaload, 1) := by decide +kernel
theorem dX12_made_30 : decode cX12_made 30 = .ok (.iastore, 1) := by decide +kernel
theorem dX12_made_31 : decode cX12_made 31 = .ok (.return_, 1) := by decide +kernel
theorem dX12_builds_0 : decode cX12_builds 0 = .ok (.iconst 0, 1) := by decide +kernel
theorem dX12_builds_1 : decode cX12_builds 1 = .ok (.istore 5, 2) := by decide +kernel
theorem dX12_builds_3 : decode cX12_builds 3 = .ok (.iconst (-1), 1) := by decide +kernel
theorem dX12_builds_4 : decode cX12_builds 4 = .ok (.istore 6, 2) := by decide +kernel
theorem dX12_builds_6 : decode cX12_builds 6 = .ok (.iload_n 2, 1) := by decide +kernel
theorem dX12_builds_7 : decode cX12_builds 7 = .ok (.istore 7, 2) := by decide +kernel
theorem dX12_builds_9 : decode cX12_builds 9 = .ok (.iload 7, 2) := by decide +kernel
theorem dX12_builds_11 : decode cX12_builds 11 = .ok (.iload_n 2, 1) := by decide +kernel
theorem dX12_builds_12 : decode cX12_builds 12 = .ok (.iload_n 3, 1) := by decide +kernel
theorem dX12_builds_13 : decode cX12_builds 13 = .ok (.iadd, 1) := by decide +kernel
theorem dX12_builds_14 : decode cX12_builds 14 = .ok (.if_icmp .ge 102, 3) := by decide +kernel
theorem dX12_builds_17 : decode cX12_builds 17 = .ok (.aload_n 1, 1) := by decide +kernel
theorem dX12_builds_18 : decode cX12_builds 18 = .ok (.iload 7, 2) := by decide +kernel
theorem dX12_builds_20 : decode cX12_builds 20 = .ok (.iaload, 1) := by decide +kernel
theorem dX12_builds_21 : decode cX12_builds 21 = .ok (.istore 8, 2) := by decide +kernel
theorem dX12_builds_23 : decode cX12_builds 23 = .ok (.iload 8, 2) := by decide +kernel
theorem dX12_builds_25 : decode cX12_builds 25 = .ok (.invokestatic 106, 3) := by decide +kernel
theorem dX12_builds_28 : decode cX12_builds 28 = .ok (.ifCond .le 26, 3) := by decide +kernel
theorem dX12_builds_31 : decode cX12_builds 31 = .ok (.aload_n 0, 1) := by decide +kernel
theorem dX12_builds_32 : decode cX12_builds 32 = .ok (.getfield 40, 3) := by decide +kernel
theorem dX12_builds_35 : decode cX12_builds 35 = .ok (.iload 5, 2) := by decide +kernel
theorem dX12_builds_37 : decode cX12_builds 37 = .ok (.iload 8, 2) := by decide +kernel
theorem dX12_builds_39 : decode cX12_builds 39 = .ok (.iastore, 1) := by decide +kernel
theorem dX12_builds_40 : decode cX12_builds 40 = .ok (.aload_n 0, 1) := by decide +kernel
theorem dX12_builds_41 : decode cX12_builds 41 = .ok (.getfield 43, 3) := by decide +kernel
theorem dX12_builds_44 : decode cX12_builds 44 = .ok (.iload 5, 2) := by decide +kernel
theorem dX12_builds_46 : decode cX12_builds 46 = .ok (.iconst (-1), 1) := by decide +kernel
theorem dX12_builds_47 : decode cX12_builds 47 = .ok (.iastore, 1) := by decide +kernel
theorem dX12_builds_48 : decode cX12_builds 48 = .ok (.iinc 5 1, 3) := by decide +kernel
theorem dX12_builds_51 : decode cX12_builds 51 = .ok (.goto 59, 3) := by decide +kernel
theorem dX12_builds_54 : decode cX12_builds 54 = .ok (.iload 8, 2) := by decide +kernel
theorem dX12_builds_56 : decode cX12_builds 56 = .ok (.bipush 7, 2) := by decide +kernel
theorem dX12_builds_58 : decode cX12_builds 58 = .ok (.if_icmp .lt 16, 3) := by decide +kernel
theorem dX12_builds_61 : decode cX12_builds 61 = .ok (.aload_n 0, 1) := by decide +kernel
theorem dX12_builds_62 : decode cX12_builds 62 = .ok (.getfield 70, 3) := by decide +kernel
theorem dX12_builds_65 : decode cX12_builds 65 = .ok (.iload 8, 2) := by decide +kernel
theorem dX12_builds_67 : decode cX12_builds 67 = .ok (.bipush 7, 2) := by decide +kernel
theorem dX12_builds_69 : decode cX12_builds 69 = .ok (.isub, 1) := by decide +kernel
theorem dX12_builds_70 : decode cX12_builds 70 = .ok (.iaload, 1) := by decide +kernel
theorem dX12_builds_71 : decode cX12_builds 71 = .ok (.goto 13, 3) := by decide +kernel
theorem dX12_builds_74 : decode cX12_builds 74 = .ok (.aload_n 0, 1) := by decide +kernel
theorem dX12_builds_75 : decode cX12_builds 75 = .ok (.iload 8, 2) := by decide +kernel
theorem dX12_builds_77 : decode cX12_builds 77 = .ok (.iconst (-1), 1) := by decide +kernel
theorem dX12_builds_78 : decode cX12_builds 78 = .ok (.iconst (-1), 1) := by decide +kernel
theorem dX12_builds_79 : decode cX12_builds 79 = .ok (.iload 4, 2) := by decide +kernel
theorem dX12_builds_81 : decode cX12_builds 81 = .ok (.invokevirtual 119, 3) := by decide +kernel
theorem dX12_builds_84 : decode cX12_builds 84 = .ok (.istore 9, 2) := by decide +kernel
theorem dX12_builds_86 : decode cX12_builds 86 = .ok (.aload_n 0, 1) := by decide +kernel
theorem dX12_builds_87 : decode cX12_builds 87 = .ok (.iload 9, 2) := by decide +kernel
theorem dX12_builds_89 : decode cX12_builds 89 = .ok (.invokevirtual 169, 3) := by decide +kernel
theorem dX12_builds_92 : decode cX12_builds 92 = .ok (.aload_n 0, 1) := by decide +kernel
theorem dX12_builds_93 : decode cX12_builds 93 = .ok (.iload 5, 2) := by decide +kernel
theorem dX12_builds_95 : decode cX12_builds 95 = .ok (.iload 9, 2) := by decide +kernel
theorem dX12_builds_97 : decode cX12_builds 97 = .ok (.iload 4, 2) := by decide +kernel
theorem dX12_builds_99 : decode cX12_builds 99 = .ok (.invokevirtual 175, 3) := by decide +kernel
theorem dX12_builds_102 : decode cX12_builds 102 = .ok (.istore 6, 2) := by decide +kernel
theorem dX12_builds_104 : decode cX12_builds 104 = .ok (.aload_n 0, 1) := by decide +kernel
theorem dX12_builds_105 : decode cX12_builds 105 = .ok (.getfield 166, 3) := by decide +kernel
theorem dX12_builds_108 : decode cX12_builds 108 = .ok (.istore 5, 2) := by decide +kernel
theorem dX12_builds_110 : decode cX12_builds 110 = .ok (.iinc 7 1, 3) := by decide +kernel
theorem dX12_builds_113 : decode cX12_builds 113 = .ok (.goto (-104), 3) := by decide +kernel
theorem dX12_builds_116 : decode cX12_builds 116 = .ok (.iload 6, 2) := by decide +kernel
theorem dX12_builds_118 : decode cX12_builds 118 = .ok (.ireturn, 1) := by decide +kernel
theorem dX12_does_0 : decode cX12_does 0 = .ok (.sipush 1000, 3) := by decide +kernel
theorem dX12_does_3 : decode cX12_does 3 = .ok (.iload_n 1, 1) := by decide +kernel
theorem dX12_does_4 : decode cX12_does 4 = .ok (.imul, 1) := by decide +kernel
theorem dX12_does_5 : decode cX12_does 5 = .ok (.iconst 5, 1) := by decide +kernel
theorem dX12_does_6 : decode cX12_does 6 = .ok (.iload_n 2, 1) := by decide +kernel
theorem dX12_does_7 : decode cX12_does 7 = .ok (.imul, 1) := by decide +kernel
theorem dX12_does_8 : decode cX12_does 8 = .ok (.iadd, 1) := by decide +kernel
theorem dX12_does_9 : decode cX12_does 9 = .ok (.istore_n 3, 1) := by decide +kernel
theorem dX12_does_10 : decode cX12_does 10 = .ok (.aload_n 0, 1) := by decide +kernel
theorem dX12_does_11 : decode cX12_does 11 = .ok (.getfield 7, 3) := by decide +kernel
theorem dX12_does_14 : decode cX12_does 14 = .ok (.iconst 0, 1) := by decide +kernel
theorem dX12_does_15 : decode cX12_does 15 = .ok (.iaload, 1) := by decide +kernel
theorem dX12_does_16 : decode cX12_does 16 = .ok (.istore 4, 2) := by decide +kernel
theorem dX12_does_18 : decode cX12_does 18 = .ok (.aload_n 0, 1) := by decide +kernel
theorem dX12_does_19 : decode cX12_does 19 = .ok (.iload 4, 2) := by decide +kernel
theorem dX12_does_21 : decode cX12_does 21 = .ok (.invokevirtual 126, 3) := by decide +kernel
theorem dX12_does_24 : decode cX12_does 24 = .ok (.istore 5, 2) := by decide +kernel
theorem dX12_does_26 : decode cX12_does 26 = .ok (.iconst 0, 1) := by decide +kernel
theorem dX12_does_27 : decode cX12_does 27 = .ok (.istore 6, 2) := by decide +kernel
theorem dX12_does_29 : decode cX12_does 29 = .ok (.iload 6, 2) := by decide +kernel
theorem dX12_does_31 : decode cX12_does 31 = .ok (.iconst 3, 1) := by decide +kernel
theorem dX12_does_32 : decode cX12_does 32 = .ok (.if_icmp .ge 45, 3) := by decide +kernel
theorem dX12_does_35 : decode cX12_does 35 = .ok (.aload_n 0, 1) := by decide +kernel
theorem dX12_does_36 : decode cX12_does 36 = .ok (.getfield 70, 3) := by decide +kernel
theorem dX12_does_39 : decode cX12_does 39 = .ok (.iload 6, 2) := by decide +kernel
theorem dX12_does_41 : decode cX12_does 41 = .ok (.aload_n 0, 1) := by decide +kernel
theorem dX12_does_42 : decode cX12_does 42 = .ok (.getfield 61, 3) := by decide +kernel
theorem dX12_does_45 : decode cX12_does 45 = .ok (.iload_n 3, 1) := by decide +kernel
theorem dX12_does_46 : decode cX12_does 46 = .ok (.iload 6, 2) := by decide +kernel
theorem dX12_does_48 : decode cX12_does 48 = .ok (.iadd, 1) := by decide +kernel
theorem dX12_does_49 : decode cX12_does 49 = .ok (.iaload, 1) := by decide +kernel
theorem dX12_does_50 : decode cX12_does 50 = .ok (.ifCond .ge 7, 3) := by decide +kernel
theorem dX12_does_53 : decode cX12_does 53 = .ok (.iconst (-1), 1) := by decide +kernel
theorem dX12_does_54 : decode cX12_does 54 = .ok (.goto 16, 3) := by decide +kernel
theorem dX12_does_57 : decode cX12_does 57 = .ok (.aload_n 0, 1) := by decide +kernel
theorem dX12_does_58 : decode cX12_does 58 = .ok (.aload_n 0, 1) := by decide +kernel
theorem dX12_does_59 : decode cX12_does 59 = .ok (.getfield 61, 3) := by decide +kernel
theorem dX12_does_62 : decode cX12_does 62 = .ok (.iload_n 3, 1) := by decide +kernel
theorem dX12_does_63 : decode cX12_does 63 = .ok (.iload 6, 2) := by decide +kernel
theorem dX12_does_65 : decode cX12_does 65 = .ok (.iadd, 1) := by decide +kernel
theorem dX12_does_66 : decode cX12_does 66 = .ok (.iaload, 1) := by decide +kernel
theorem dX12_does_67 : decode cX12_does 67 = .ok (.invokevirtual 95, 3) := by decide +kernel
theorem dX12_does_70 : decode cX12_does 70 = .ok (.iastore, 1) := by decide +kernel
theorem dX12_does_71 : decode cX12_does 71 = .ok (.iinc 6 1, 3) := by decide +kernel
theorem dX12_does_74 : decode cX12_does 74 = .ok (.goto (-45), 3) := by decide +kernel
theorem dX12_does_77 : decode cX12_does 77 = .ok (.aload_n 0, 1) := by decide +kernel
theorem dX12_does_78 : decode cX12_does 78 = .ok (.iconst 0, 1) := by decide +kernel
theorem dX12_does_79 : decode cX12_does 79 = .ok (.putfield 91, 3) := by decide +kernel
theorem dX12_does_82 : decode cX12_does 82 = .ok (.aload_n 0, 1) := by decide +kernel
theorem dX12_does_83 : decode cX12_does 83 = .ok (.iconst 0, 1) := by decide +kernel
theorem dX12_does_84 : decode cX12_does 84 = .ok (.putfield 172, 3) := by decide +kernel
theorem dX12_does_87 : decode cX12_does 87 = .ok (.aload_n 0, 1) := by decide +kernel
theorem dX12_does_88 : decode cX12_does 88 = .ok (.aload_n 0, 1) := by decide +kernel
theorem dX12_does_89 : decode cX12_does 89 = .ok (.getfield 7, 3) := by decide +kernel
theorem dX12_does_92 : decode cX12_does 92 = .ok (.sipush 264, 3) := by decide +kernel
theorem dX12_does_95 : decode cX12_does 95 = .ok (.bipush 120, 2) := by decide +kernel
theorem dX12_does_97 : decode cX12_does 97 = .ok (.iload_n 1, 1) := by decide +kernel
theorem dX12_does_98 : decode cX12_does 98 = .ok (.imul, 1) := by decide +kernel
theorem dX12_does_99 : decode cX12_does 99 = .ok (.iadd, 1) := by decide +kernel
theorem dX12_does_100 : decode cX12_does 100 = .ok (.aload_n 0, 1) := by decide +kernel
theorem dX12_does_101 : decode cX12_does 101 = .ok (.getfield 7, 3) := by decide +kernel
theorem dX12_does_104 : decode cX12_does 104 = .ok (.sipush 252, 3) := by decide +kernel
theorem dX12_does_107 : decode cX12_does 107 = .ok (.iload_n 1, 1) := by decide +kernel
theorem dX12_does_108 : decode cX12_does 108 = .ok (.iadd, 1) := by decide +kernel
theorem dX12_does_109 : decode cX12_does 109 = .ok (.iaload, 1) := by decide +kernel
theorem dX12_does_110 : decode cX12_does 110 = .ok (.iadd, 1) := by decide +kernel
theorem dX12_does_111 : decode cX12_does 111 = .ok (.aload_n 0, 1) := by decide +kernel
theorem dX12_does_112 : decode cX12_does 112 = .ok (.getfield 7, 3) := by decide +kernel
theorem dX12_does_115 : decode cX12_does 115 = .ok (.sipush 258, 3) := by decide +kernel
theorem dX12_does_118 : decode cX12_does 118 = .ok (.iload_n 1, 1) := by decide +kernel
theorem dX12_does_119 : decode cX12_does 119 = .ok (.iadd, 1) := by decide +kernel
theorem dX12_does_120 : decode cX12_does 120 = .ok (.iaload, 1) := by decide +kernel
theorem dX12_does_121 : decode cX12_does 121 = .ok (.aload_n 0, 1) := by decide +kernel
theorem dX12_does_122 : decode cX12_does 122 = .ok (.getfield 61, 3) := by decide +kernel
theorem dX12_does_125 : decode cX12_does 125 = .ok (.iload_n 3, 1) := by decide +kernel
theorem dX12_does_126 : decode cX12_does 126 = .ok (.iconst 4, 1) := by decide +kernel
theorem dX12_does_127 : decode cX12_does 127 = .ok (.iadd, 1) := by decide +kernel
theorem dX12_does_128 : decode cX12_does 128 = .ok (.iaload, 1) := by decide +kernel
theorem dX12_does_129 : decode cX12_does 129 = .ok (.invokevirtual 178, 3) := by decide +kernel
theorem dX12_does_132 : decode cX12_does 132 = .ok (.istore 6, 2) := by decide +kernel
theorem dX12_does_134 : decode cX12_does 134 = .ok (.aload_n 0, 1) := by decide +kernel
theorem dX12_does_135 : decode cX12_does 135 = .ok (.getfield 91, 3) := by decide +kernel
theorem dX12_does_138 : decode cX12_does 138 = .ok (.ifCond .eq 23, 3) := by decide +kernel
theorem dX12_does_141 : decode cX12_does 141 = .ok (.aload_n 0, 1) := by decide +kernel
theorem dX12_does_142 : decode cX12_does 142 = .ok (.getfield 7, 3) := by decide +kernel
theorem dX12_does_145 : decode cX12_does 145 = .ok (.iconst 0, 1) := by decide +kernel
theorem dX12_does_146 : decode cX12_does 146 = .ok (.iload 4, 2) := by decide +kernel
theorem dX12_does_148 : decode cX12_does 148 = .ok (.iastore, 1) := by decide +kernel
theorem dX12_does_149 : decode cX12_does 149 = .ok (.aload_n 0, 1) := by decide +kernel
theorem dX12_does_150 : decode cX12_does 150 = .ok (.getfield 22, 3) := by decide +kernel
theorem dX12_does_153 : decode cX12_does 153 = .ok (.iconst 2, 1) := by decide +kernel
theorem dX12_does_154 : decode cX12_does 154 = .ok (.dup2, 1) := by decide +kernel
theorem dX12_does_155 : decode cX12_does 155 = .ok (.iaload, 1) := by decide +kernel
theorem dX12_does_156 : decode cX12_does 156 = .ok (.iconst 1, 1) := by decide +kernel
theorem dX12_does_157 : decode cX12_does 157 = .ok (.iadd, 1) := by decide +kernel
theorem dX12_does_158 : decode cX12_does 158 = .ok (.iastore, 1) := by decide +kernel
theorem dX12_does_159 : decode cX12_does 159 = .ok (.iconst 0, 1) := by decide +kernel
theorem dX12_does_160 : decode cX12_does 160 = .ok (.ireturn, 1) := by decide +kernel
theorem dX12_does_161 : decode cX12_does 161 = .ok (.aload_n 0, 1) := by decide +kernel
theorem dX12_does_162 : decode cX12_does 162 = .ok (.getfield 22, 3) := by decide +kernel
theorem dX12_does_165 : decode cX12_does 165 = .ok (.iconst 0, 1) := by decide +kernel
theorem dX12_does_166 : decode cX12_does 166 = .ok (.dup2, 1) := by decide +kernel
theorem dX12_does_167 : decode cX12_does 167 = .ok (.iaload, 1) := by decide +kernel
theorem dX12_does_168 : decode cX12_does 168 = .ok (.iconst 1, 1) := by decide +kernel
theorem dX12_does_169 : decode cX12_does 169 = .ok (.iadd, 1) := by decide +kernel
theorem dX12_does_170 : decode cX12_does 170 = .ok (.iastore, 1) := by decide +kernel
theorem dX12_does_171 : decode cX12_does 171 = .ok (.aload_n 0, 1) := by decide +kernel
theorem dX12_does_172 : decode cX12_does 172 = .ok (.getfield 22, 3) := by decide +kernel
theorem dX12_does_175 : decode cX12_does 175 = .ok (.iconst 3, 1) := by decide +kernel
theorem dX12_does_176 : decode cX12_does 176 = .ok (.dup2, 1) := by decide +kernel
theorem dX12_does_177 : decode cX12_does 177 = .ok (.iaload, 1) := by decide +kernel
theorem dX12_does_178 : decode cX12_does 178 = .ok (.aload_n 0, 1) := by decide +kernel
theorem dX12_does_179 : decode cX12_does 179 = .ok (.getfield 7, 3) := by decide +kernel
theorem dX12_does_182 : decode cX12_does 182 = .ok (.iconst 0, 1) := by decide +kernel
theorem dX12_does_183 : decode cX12_does 183 = .ok (.iaload, 1) := by decide +kernel
theorem dX12_does_184 : decode cX12_does 184 = .ok (.iload 4, 2) := by decide +kernel
theorem dX12_does_186 : decode cX12_does 186 = .ok (.isub, 1) := by decide +kernel
theorem dX12_does_187 : decode cX12_does 187 = .ok (.iadd, 1) := by decide +kernel
theorem dX12_does_188 : decode cX12_does 188 = .ok (.iastore, 1) := by decide +kernel
theorem dX12_does_189 : decode cX12_does 189 = .ok (.aload_n 0, 1) := by decide +kernel
theorem dX12_does_190 : decode cX12_does 190 = .ok (.invokevirtual 123, 3) := by decide +kernel
theorem dX12_does_193 : decode cX12_does 193 = .ok (.aload_n 0, 1) := by decide +kernel
theorem dX12_does_194 : decode cX12_does 194 = .ok (.iload 6, 2) := by decide +kernel
theorem dX12_does_196 : decode cX12_does 196 = .ok (.aload_n 0, 1) := by decide +kernel
theorem dX12_does_197 : decode cX12_does 197 = .ok (.getfield 61, 3) := by decide +kernel
theorem dX12_does_200 : decode cX12_does 200 = .ok (.iload_n 3, 1) := by decide +kernel
theorem dX12_does_201 : decode cX12_does 201 = .ok (.iconst 3, 1) := by decide +kernel
theorem dX12_does_202 : decode cX12_does 202 = .ok (.iadd, 1) := by decide +kernel
theorem dX12_does_203 : decode cX12_does 203 = .ok (.iaload, 1) := by decide +kernel
theorem dX12_does_204 : decode cX12_does 204 = .ok (.invokevirtual 103, 3) := by decide +kernel
theorem dX12_does_207 : decode cX12_does 207 = .ok (.pop, 1) := by decide +kernel
theorem dX12_does_208 : decode cX12_does 208 = .ok (.aload_n 0, 1) := by decide +kernel
theorem dX12_does_209 : decode cX12_does 209 = .ok (.invokevirtual 123, 3) := by decide +kernel
theorem dX12_does_212 : decode cX12_does 212 = .ok (.aload_n 0, 1) := by decide +kernel
theorem dX12_does_213 : decode cX12_does 213 = .ok (.iload 4, 2) := by decide +kernel
theorem dX12_does_215 : decode cX12_does 215 = .ok (.invokevirtual 126, 3) := by decide +kernel
theorem dX12_does_218 : decode cX12_does 218 = .ok (.iload 5, 2) := by decide +kernel
theorem dX12_does_220 : decode cX12_does 220 = .ok (.if_icmp .ge 7, 3) := by decide +kernel
theorem dX12_does_223 : decode cX12_does 223 = .ok (.iconst 1, 1) := by decide +kernel
theorem dX12_does_224 : decode cX12_does 224 = .ok (.goto 4, 3) := by decide +kernel
theorem dX12_does_227 : decode cX12_does 227 = .ok (.iconst 0, 1) := by decide +kernel
theorem dX12_does_228 : decode cX12_does 228 = .ok (.istore 7, 2) := by decide +kernel
theorem dX12_does_230 : decode cX12_does 230 = .ok (.aload_n 0, 1) := by decide +kernel
theorem dX12_does_231 : decode cX12_does 231 = .ok (.getfield 22, 3) := by decide +kernel
theorem dX12_does_234 : decode cX12_does 234 = .ok (.iconst 4, 1) := by decide +kernel
theorem dX12_does_235 : decode cX12_does 235 = .ok (.dup2, 1) := by decide +kernel
theorem dX12_does_236 : decode cX12_does 236 = .ok (.iaload, 1) := by decide +kernel
theorem dX12_does_237 : decode cX12_does 237 = .ok (.iload 7, 2) := by decide +kernel
theorem dX12_does_239 : decode cX12_does 239 = .ok (.ifCond .eq 7, 3) := by decide +kernel
theorem dX12_does_242 : decode cX12_does 242 = .ok (.iconst 1, 1) := by decide +kernel
theorem dX12_does_243 : decode cX12_does 243 = .ok (.goto 4, 3) := by decide +kernel
theorem dX12_does_246 : decode cX12_does 246 = .ok (.iconst 0, 1) := by decide +kernel
theorem dX12_does_247 : decode cX12_does 247 = .ok (.iadd, 1) := by decide +kernel
theorem dX12_does_248 : decode cX12_does 248 = .ok (.iastore, 1) := by decide +kernel
theorem dX12_does_249 : decode cX12_does 249 = .ok (.iload 7, 2) := by decide +kernel
theorem dX12_does_251 : decode cX12_does 251 = .ok (.ifCond .ne 14, 3) := by decide +kernel
theorem dX12_does_254 : decode cX12_does 254 = .ok (.aload_n 0, 1) := by decide +kernel
theorem dX12_does_255 : decode cX12_does 255 = .ok (.getfield 7, 3) := by decide +kernel
theorem dX12_does_258 : decode cX12_does 258 = .ok (.iconst 0, 1) := by decide +kernel
theorem dX12_does_259 : decode cX12_does 259 = .ok (.iaload, 1) := by decide +kernel
theorem dX12_does_260 : decode cX12_does 260 = .ok (.iload 4, 2) := by decide +kernel
theorem dX12_does_262 : decode cX12_does 262 = .ok (.if_icmp .le 7, 3) := by decide +kernel
theorem dX12_does_265 : decode cX12_does 265 = .ok (.iconst 1, 1) := by decide +kernel
theorem dX12_does_266 : decode cX12_does 266 = .ok (.goto 4, 3) := by decide +kernel
theorem dX12_does_269 : decode cX12_does 269 = .ok (.iconst 0, 1) := by decide +kernel
theorem dX12_does_270 : decode cX12_does 270 = .ok (.ireturn, 1) := by decide +kernel
theorem dX12_doesAll_0 : decode cX12_doesAll 0 = .ok (.iconst 0, 1) := by decide +kernel
theorem dX12_doesAll_1 : decode cX12_doesAll 1 = .ok (.istore 4, 2) := by decide +kernel
theorem dX12_doesAll_3 : decode cX12_doesAll 3 = .ok (.iconst 0, 1) := by decide +kernel
theorem dX12_doesAll_4 : decode cX12_doesAll 4 = .ok (.istore 5, 2) := by decide +kernel
theorem dX12_doesAll_6 : decode cX12_doesAll 6 = .ok (.iload 5, 2) := by decide +kernel
theorem dX12_doesAll_8 : decode cX12_doesAll 8 = .ok (.aload_n 0, 1) := by decide +kernel
theorem dX12_doesAll_9 : decode cX12_doesAll 9 = .ok (.getfield 64, 3) := by decide +kernel
theorem dX12_doesAll_12 : decode cX12_doesAll 12 = .ok (.iload_n 1, 1) := by decide +kernel
theorem dX12_doesAll_13 : decode cX12_doesAll 13 = .ok (.iaload, 1) := by decide +kernel
theorem dX12_doesAll_14 : decode cX12_doesAll 14 = .ok (.if_icmp .ge 105, 3) := by decide +kernel
theorem dX12_doesAll_17 : decode cX12_doesAll 17 = .ok (.sipush 1000, 3) := by decide +kernel
theorem dX12_doesAll_20 : decode cX12_doesAll 20 = .ok (.iload_n 1, 1) := by decide +kernel
theorem dX12_doesAll_21 : decode cX12_doesAll 21 = .ok (.imul, 1) := by decide +kernel
theorem dX12_doesAll_22 : decode cX12_doesAll 22 = .ok (.iconst 5, 1) := by decide +kernel
theorem dX12_doesAll_23 : decode cX12_doesAll 23 = .ok (.iload 5, 2) := by decide +kernel
theorem dX12_doesAll_25 : decode cX12_doesAll 25 = .ok (.imul, 1) := by decide +kernel
theorem dX12_doesAll_26 : decode cX12_doesAll 26 = .ok (.iadd, 1) := by decide +kernel
theorem dX12_doesAll_27 : decode cX12_doesAll 27 = .ok (.istore 6, 2) := by decide +kernel
theorem dX12_doesAll_29 : decode cX12_doesAll 29 = .ok (.aload_n 0, 1) := by decide +kernel
theorem dX12_doesAll_30 : decode cX12_doesAll 30 = .ok (.getfield 61, 3) := by decide +kernel
theorem dX12_doesAll_33 : decode cX12_doesAll 33 = .ok (.iload 6, 2) := by decide +kernel
theorem dX12_doesAll_35 : decode cX12_doesAll 35 = .ok (.iconst 4, 1) := by decide +kernel
theorem dX12_doesAll_36 : decode cX12_doesAll 36 = .ok (.iadd, 1) := by decide +kernel
theorem dX12_doesAll_37 : decode cX12_doesAll 37 = .ok (.iaload, 1) := by decide +kernel
theorem dX12_doesAll_38 : decode cX12_doesAll 38 = .ok (.aload_n 0, 1) := by decide +kernel
theorem dX12_doesAll_39 : decode cX12_doesAll 39 = .ok (.getfield 19, 3) := by decide +kernel
theorem dX12_doesAll_42 : decode cX12_doesAll 42 = .ok (.iconst 1, 1) := by decide +kernel
theorem dX12_doesAll_43 : decode cX12_doesAll 43 = .ok (.iaload, 1) := by decide +kernel
theorem dX12_doesAll_44 : decode cX12_doesAll 44 = .ok (.if_icmp .gt 41, 3) := by decide +kernel
theorem dX12_doesAll_47 : decode cX12_doesAll 47 = .ok (.iload_n 2, 1) := by decide +kernel
theorem dX12_doesAll_48 : decode cX12_doesAll 48 = .ok (.ifCond .lt 16, 3) := by decide +kernel
theorem dX12_doesAll_51 : decode cX12_doesAll 51 = .ok (.aload_n 0, 1) := by decide +kernel
theorem dX12_doesAll_52 : decode cX12_doesAll 52 = .ok (.getfield 61, 3) := by decide +kernel
theorem dX12_doesAll_55 : decode cX12_doesAll 55 = .ok (.iload 6, 2) := by decide +kernel
theorem dX12_doesAll_57 : decode cX12_doesAll 57 = .ok (.iconst 4, 1) := by decide +kernel
theorem dX12_doesAll_58 : decode cX12_doesAll 58 = .ok (.iadd, 1) := by decide +kernel
theorem dX12_doesAll_59 : decode cX12_doesAll 59 = .ok (.iaload, 1) := by decide +kernel
theorem dX12_doesAll_60 : decode cX12_doesAll 60 = .ok (.iload_n 2, 1) := by decide +kernel
theorem dX12_doesAll_61 : decode cX12_doesAll 61 = .ok (.if_icmp .ne 24, 3) := by decide +kernel
theorem dX12_doesAll_64 : decode cX12_doesAll 64 = .ok (.iload_n 3, 1) := by decide +kernel
theorem dX12_doesAll_65 : decode cX12_doesAll 65 = .ok (.ifCond .lt 16, 3) := by decide +kernel
theorem dX12_doesAll_68 : decode cX12_doesAll 68 = .ok (.aload_n 0, 1) := by decide +kernel
theorem dX12_doesAll_69 : decode cX12_doesAll 69 = .ok (.getfield 61, 3) := by decide +kernel
theorem dX12_doesAll_72 : decode cX12_doesAll 72 = .ok (.iload 6, 2) := by decide +kernel
theorem dX12_doesAll_74 : decode cX12_doesAll 74 = .ok (.iconst 3, 1) := by decide +kernel
theorem dX12_doesAll_75 : decode cX12_doesAll 75 = .ok (.iadd, 1) := by decide +kernel
theorem dX12_doesAll_76 : decode cX12_doesAll 76 = .ok (.iaload, 1) := by decide +kernel
theorem dX12_doesAll_77 : decode cX12_doesAll 77 = .ok (.iload_n 3, 1) := by decide +kernel
theorem dX12_doesAll_78 : decode cX12_doesAll 78 = .ok (.if_icmp .ne 7, 3) := by decide +kernel
theorem dX12_doesAll_81 : decode cX12_doesAll 81 = .ok (.iconst 1, 1) := by decide +kernel
theorem dX12_doesAll_82 : decode cX12_doesAll 82 = .ok (.goto 4, 3) := by decide +kernel
theorem dX12_doesAll_85 : decode cX12_doesAll 85 = .ok (.iconst 0, 1) := by decide +kernel
theorem dX12_doesAll_86 : decode cX12_doesAll 86 = .ok (.istore 7, 2) := by decide +kernel
theorem dX12_doesAll_88 : decode cX12_doesAll 88 = .ok (.iload 4, 2) := by decide +kernel
theorem dX12_doesAll_90 : decode cX12_doesAll 90 = .ok (.iload 7, 2) := by decide +kernel
theorem dX12_doesAll_92 : decode cX12_doesAll 92 = .ok (.ifCond .eq 17, 3) := by decide +kernel
theorem dX12_doesAll_95 : decode cX12_doesAll 95 = .ok (.aload_n 0, 1) := by decide +kernel
theorem dX12_doesAll_96 : decode cX12_doesAll 96 = .ok (.iload_n 1, 1) := by decide +kernel
theorem dX12_doesAll_97 : decode cX12_doesAll 97 = .ok (.iload 5, 2) := by decide +kernel
theorem dX12_doesAll_99 : decode cX12_doesAll 99 = .ok (.invokevirtual 182, 3) := by decide +kernel
theorem dX12_doesAll_102 : decode cX12_doesAll 102 = .ok (.ifCond .eq 7, 3) := by decide +kernel
theorem dX12_doesAll_105 : decode cX12_doesAll 105 = .ok (.iconst 1, 1) := by decide +kernel
theorem dX12_doesAll_106 : decode cX12_doesAll 106 = .ok (.goto 4, 3) := by decide +kernel
theorem dX12_doesAll_109 : decode cX12_doesAll 109 = .ok (.iconst 0, 1) := by decide +kernel
theorem dX12_doesAll_110 : decode cX12_doesAll 110 = .ok (.iadd, 1) := by decide +kernel
theorem dX12_doesAll_111 : decode cX12_doesAll 111 = .ok (.istore 4, 2) := by decide +kernel
theorem dX12_doesAll_113 : decode cX12_doesAll 113 = .ok (.iinc 5 1, 3) := by decide +kernel
theorem dX12_doesAll_116 : decode cX12_doesAll 116 = .ok (.goto (-110), 3) := by decide +kernel
theorem dX12_doesAll_119 : decode cX12_doesAll 119 = .ok (.iload 4, 2) := by decide +kernel
theorem dX12_doesAll_121 : decode cX12_doesAll 121 = .ok (.ireturn, 1) := by decide +kernel
theorem dX12_goesRound_0 : decode cX12_goesRound 0 = .ok (.aload_n 0, 1) := by decide +kernel
theorem dX12_goesRound_1 : decode cX12_goesRound 1 = .ok (.invokevirtual 160, 3) := by decide +kernel
theorem dX12_goesRound_4 : decode cX12_goesRound 4 = .ok (.iconst 0, 1) := by decide +kernel
theorem dX12_goesRound_5 : decode cX12_goesRound 5 = .ok (.istore_n 1, 1) := by decide +kernel
theorem dX12_goesRound_6 : decode cX12_goesRound 6 = .ok (.iload_n 1, 1) := by decide +kernel
theorem dX12_goesRound_7 : decode cX12_goesRound 7 = .ok (.iconst 5, 1) := by decide +kernel
theorem dX12_goesRound_8 : decode cX12_goesRound 8 = .ok (.if_icmp .ge 16, 3) := by decide +kernel
theorem dX12_goesRound_11 : decode cX12_goesRound 11 = .ok (.aload_n 0, 1) := by decide +kernel
theorem dX12_goesRound_12 : decode cX12_goesRound 12 = .ok (.getfield 22, 3) := by decide +kernel
theorem dX12_goesRound_15 : decode cX12_goesRound 15 = .ok (.iload_n 1, 1) := by decide +kernel
theorem dX12_goesRound_16 : decode cX12_goesRound 16 = .ok (.iconst 0, 1) := by decide +kernel
theorem dX12_goesRound_17 : decode cX12_goesRound 17 = .ok (.iastore, 1) := by decide +kernel
theorem dX12_goesRound_18 : decode cX12_goesRound 18 = .ok (.iinc 1 1, 3) := by decide +kernel
theorem dX12_goesRound_21 : decode cX12_goesRound 21 = .ok (.goto (-15), 3) := by decide +kernel
theorem dX12_goesRound_24 : decode cX12_goesRound 24 = .ok (.aload_n 0, 1) := by decide +kernel
theorem dX12_goesRound_25 : decode cX12_goesRound 25 = .ok (.getfield 7, 3) := by decide +kernel
theorem dX12_goesRound_28 : decode cX12_goesRound 28 = .ok (.iconst 1, 1) := by decide +kernel
theorem dX12_goesRound_29 : decode cX12_goesRound 29 = .ok (.iaload, 1) := by decide +kernel
theorem dX12_goesRound_30 : decode cX12_goesRound 30 = .ok (.istore_n 1, 1) := by decide +kernel
theorem dX12_goesRound_31 : decode cX12_goesRound 31 = .ok (.iconst 0, 1) := by decide +kernel
theorem dX12_goesRound_32 : decode cX12_goesRound 32 = .ok (.istore_n 2, 1) := by decide +kernel
theorem dX12_goesRound_33 : decode cX12_goesRound 33 = .ok (.iload_n 2, 1) := by decide +kernel
theorem dX12_goesRound_34 : decode cX12_goesRound 34 = .ok (.iload_n 1, 1) := by decide +kernel
theorem dX12_goesRound_35 : decode cX12_goesRound 35 = .ok (.if_icmp .ge 71, 3) := by decide +kernel
theorem dX12_goesRound_38 : decode cX12_goesRound 38 = .ok (.aload_n 0, 1) := by decide +kernel
theorem dX12_goesRound_39 : decode cX12_goesRound 39 = .ok (.iload_n 2, 1) := by decide +kernel
theorem dX12_goesRound_40 : decode cX12_goesRound 40 = .ok (.invokevirtual 163, 3) := by decide +kernel
theorem dX12_goesRound_43 : decode cX12_goesRound 43 = .ok (.iconst 0, 1) := by decide +kernel
theorem dX12_goesRound_44 : decode cX12_goesRound 44 = .ok (.istore_n 3, 1) := by decide +kernel
theorem dX12_goesRound_45 : decode cX12_goesRound 45 = .ok (.iload_n 3, 1) := by decide +kernel
theorem dX12_goesRound_46 : decode cX12_goesRound 46 = .ok (.aload_n 0, 1) := by decide +kernel
theorem dX12_goesRound_47 : decode cX12_goesRound 47 = .ok (.getfield 64, 3) := by decide +kernel
theorem dX12_goesRound_50 : decode cX12_goesRound 50 = .ok (.iload_n 2, 1) := by decide +kernel
theorem dX12_goesRound_51 : decode cX12_goesRound 51 = .ok (.iaload, 1) := by decide +kernel
theorem dX12_goesRound_52 : decode cX12_goesRound 52 = .ok (.if_icmp .ge 48, 3) := by decide +kernel
theorem dX12_goesRound_55 : decode cX12_goesRound 55 = .ok (.aload_n 0, 1) := by decide +kernel
theorem dX12_goesRound_56 : decode cX12_goesRound 56 = .ok (.getfield 22, 3) := by decide +kernel
theorem dX12_goesRound_59 : decode cX12_goesRound 59 = .ok (.iconst 1, 1) := by decide +kernel
theorem dX12_goesRound_60 : decode cX12_goesRound 60 = .ok (.dup2, 1) := by decide +kernel
theorem dX12_goesRound_61 : decode cX12_goesRound 61 = .ok (.iaload, 1) := by decide +kernel
theorem dX12_goesRound_62 : decode cX12_goesRound 62 = .ok (.aload_n 0, 1) := by decide +kernel
theorem dX12_goesRound_63 : decode cX12_goesRound 63 = .ok (.getfield 61, 3) := by decide +kernel
theorem dX12_goesRound_66 : decode cX12_goesRound 66 = .ok (.sipush 1000, 3) := by decide +kernel
theorem dX12_goesRound_69 : decode cX12_goesRound 69 = .ok (.iload_n 2, 1) := by decide +kernel
theorem dX12_goesRound_70 : decode cX12_goesRound 70 = .ok (.imul, 1) := by decide +kernel
theorem dX12_goesRound_71 : decode cX12_goesRound 71 = .ok (.iconst 5, 1) := by decide +kernel
theorem dX12_goesRound_72 : decode cX12_goesRound 72 = .ok (.iload_n 3, 1) := by decide +kernel
theorem dX12_goesRound_73 : decode cX12_goesRound 73 = .ok (.imul, 1) := by decide +kernel
theorem dX12_goesRound_74 : decode cX12_goesRound 74 = .ok (.iadd, 1) := by decide +kernel
theorem dX12_goesRound_75 : decode cX12_goesRound 75 = .ok (.iconst 4, 1) := by decide +kernel
theorem dX12_goesRound_76 : decode cX12_goesRound 76 = .ok (.iadd, 1) := by decide +kernel
theorem dX12_goesRound_77 : decode cX12_goesRound 77 = .ok (.iaload, 1) := by decide +kernel
theorem dX12_goesRound_78 : decode cX12_goesRound 78 = .ok (.aload_n 0, 1) := by decide +kernel
theorem dX12_goesRound_79 : decode cX12_goesRound 79 = .ok (.getfield 19, 3) := by decide +kernel
theorem dX12_goesRound_82 : decode cX12_goesRound 82 = .ok (.iconst 1, 1) := by decide +kernel
theorem dX12_goesRound_83 : decode cX12_goesRound 83 = .ok (.iaload, 1) := by decide +kernel
theorem dX12_goesRound_84 : decode cX12_goesRound 84 = .ok (.if_icmp .le 7, 3) := by decide +kernel
theorem dX12_goesRound_87 : decode cX12_goesRound 87 = .ok (.iconst 1, 1) := by decide +kernel
theorem dX12_goesRound_88 : decode cX12_goesRound 88 = .ok (.goto 4, 3) := by decide +kernel
theorem dX12_goesRound_91 : decode cX12_goesRound 91 = .ok (.iconst 0, 1) := by decide +kernel
theorem dX12_goesRound_92 : decode cX12_goesRound 92 = .ok (.iadd, 1) := by decide +kernel
theorem dX12_goesRound_93 : decode cX12_goesRound 93 = .ok (.iastore, 1) := by decide +kernel
theorem dX12_goesRound_94 : decode cX12_goesRound 94 = .ok (.iinc 3 1, 3) := by decide +kernel
theorem dX12_goesRound_97 : decode cX12_goesRound 97 = .ok (.goto (-52), 3) := by decide +kernel
theorem dX12_goesRound_100 : decode cX12_goesRound 100 = .ok (.iinc 2 1, 3) := by decide +kernel
theorem dX12_goesRound_103 : decode cX12_goesRound 103 = .ok (.goto (-70), 3) := by decide +kernel
theorem dX12_goesRound_106 : decode cX12_goesRound 106 = .ok (.iconst 0, 1) := by decide +kernel
theorem dX12_goesRound_107 : decode cX12_goesRound 107 = .ok (.istore_n 2, 1) := by decide +kernel
theorem dX12_goesRound_108 : decode cX12_goesRound 108 = .ok (.aload_n 0, 1) := by decide +kernel
theorem dX12_goesRound_109 : decode cX12_goesRound 109 = .ok (.getfield 19, 3) := by decide +kernel
theorem dX12_goesRound_112 : decode cX12_goesRound 112 = .ok (.iconst 0, 1) := by decide +kernel
theorem dX12_goesRound_113 : decode cX12_goesRound 113 = .ok (.iaload, 1) := by decide +kernel
theorem dX12_goesRound_114 : decode cX12_goesRound 114 = .ok (.iconst 1, 1) := by decide +kernel
theorem dX12_goesRound_115 : decode cX12_goesRound 115 = .ok (.if_icmp .ne 8, 3) := by decide +kernel
theorem dX12_goesRound_118 : decode cX12_goesRound 118 = .ok (.bipush 10, 2) := by decide +kernel
theorem dX12_goesRound_120 : decode cX12_goesRound 120 = .ok (.goto 19, 3) := by decide +kernel
theorem dX12_goesRound_123 : decode cX12_goesRound 123 = .ok (.aload_n 0, 1) := by decide +kernel
theorem dX12_goesRound_124 : decode cX12_goesRound 124 = .ok (.getfield 19, 3) := by decide +kernel
theorem dX12_goesRound_127 : decode cX12_goesRound 127 = .ok (.iconst 0, 1) := by decide +kernel
theorem dX12_goesRound_128 : decode cX12_goesRound 128 = .ok (.iaload, 1) := by decide +kernel
theorem dX12_goesRound_129 : decode cX12_goesRound 129 = .ok (.iconst 3, 1) := by decide +kernel
theorem dX12_goesRound_130 : decode cX12_goesRound 130 = .ok (.if_icmp .ne 8, 3) := by decide +kernel
theorem dX12_goesRound_133 : decode cX12_goesRound 133 = .ok (.bipush 50, 2) := by decide +kernel
theorem dX12_goesRound_135 : decode cX12_goesRound 135 = .ok (.goto 4, 3) := by decide +kernel
theorem dX12_goesRound_138 : decode cX12_goesRound 138 = .ok (.iconst 1, 1) := by decide +kernel
theorem dX12_goesRound_139 : decode cX12_goesRound 139 = .ok (.istore_n 3, 1) := by decide +kernel
theorem dX12_goesRound_140 : decode cX12_goesRound 140 = .ok (.iconst 0, 1) := by decide +kernel
theorem dX12_goesRound_141 : decode cX12_goesRound 141 = .ok (.istore 4, 2) := by decide +kernel
theorem dX12_goesRound_143 : decode cX12_goesRound 143 = .ok (.iload 4, 2) := by decide +kernel
theorem dX12_goesRound_145 : decode cX12_goesRound 145 = .ok (.iload_n 3, 1) := by decide +kernel
theorem dX12_goesRound_146 : decode cX12_goesRound 146 = .ok (.if_icmp .ge 84, 3) := by decide +kernel
theorem dX12_goesRound_149 : decode cX12_goesRound 149 = .ok (.iconst 0, 1) := by decide +kernel
theorem dX12_goesRound_150 : decode cX12_goesRound 150 = .ok (.istore 5, 2) := by decide +kernel
theorem dX12_goesRound_152 : decode cX12_goesRound 152 = .ok (.iload 5, 2) := by decide +kernel
theorem dX12_goesRound_154 : decode cX12_goesRound 154 = .ok (.iload_n 1, 1) := by decide +kernel
theorem dX12_goesRound_155 : decode cX12_goesRound 155 = .ok (.if_icmp .ge 69, 3) := by decide +kernel
theorem dX12_goesRound_158 : decode cX12_goesRound 158 = .ok (.iload_n 2, 1) := by decide +kernel
theorem dX12_goesRound_159 : decode cX12_goesRound 159 = .ok (.aload_n 0, 1) := by decide +kernel
theorem dX12_goesRound_160 : decode cX12_goesRound 160 = .ok (.aload_n 0, 1) := by decide +kernel
theorem dX12_goesRound_161 : decode cX12_goesRound 161 = .ok (.getfield 19, 3) := by decide +kernel
theorem dX12_goesRound_164 : decode cX12_goesRound 164 = .ok (.iconst 0, 1) := by decide +kernel
theorem dX12_goesRound_165 : decode cX12_goesRound 165 = .ok (.iaload, 1) := by decide +kernel
theorem dX12_goesRound_166 : decode cX12_goesRound 166 = .ok (.iconst 2, 1) := by decide +kernel
theorem dX12_goesRound_167 : decode cX12_goesRound 167 = .ok (.if_icmp .ne 12, 3) := by decide +kernel
theorem dX12_goesRound_170 : decode cX12_goesRound 170 = .ok (.iload_n 1, 1) := by decide +kernel
theorem dX12_goesRound_171 : decode cX12_goesRound 171 = .ok (.iconst 1, 1) := by decide +kernel
theorem dX12_goesRound_172 : decode cX12_goesRound 172 = .ok (.isub, 1) := by decide +kernel
theorem dX12_goesRound_173 : decode cX12_goesRound 173 = .ok (.iload 5, 2) := by decide +kernel
theorem dX12_goesRound_175 : decode cX12_goesRound 175 = .ok (.isub, 1) := by decide +kernel
theorem dX12_goesRound_176 : decode cX12_goesRound 176 = .ok (.goto 5, 3) := by decide +kernel
theorem dX12_goesRound_179 : decode cX12_goesRound 179 = .ok (.iload 5, 2) := by decide +kernel
theorem dX12_goesRound_181 : decode cX12_goesRound 181 = .ok (.aload_n 0, 1) := by decide +kernel
theorem dX12_goesRound_182 : decode cX12_goesRound 182 = .ok (.getfield 19, 3) := by decide +kernel
theorem dX12_goesRound_185 : decode cX12_goesRound 185 = .ok (.iconst 0, 1) := by decide +kernel
theorem dX12_goesRound_186 : decode cX12_goesRound 186 = .ok (.iaload, 1) := by decide +kernel
theorem dX12_goesRound_187 : decode cX12_goesRound 187 = .ok (.iconst 1, 1) := by decide +kernel
theorem dX12_goesRound_188 : decode cX12_goesRound 188 = .ok (.if_icmp .ne 8, 3) := by decide +kernel
theorem dX12_goesRound_191 : decode cX12_goesRound 191 = .ok (.iload 4, 2) := by decide +kernel
theorem dX12_goesRound_193 : decode cX12_goesRound 193 = .ok (.goto 4, 3) := by decide +kernel
theorem dX12_goesRound_196 : decode cX12_goesRound 196 = .ok (.iconst (-1), 1) := by decide +kernel
theorem dX12_goesRound_197 : decode cX12_goesRound 197 = .ok (.aload_n 0, 1) := by decide +kernel
theorem dX12_goesRound_198 : decode cX12_goesRound 198 = .ok (.getfield 19, 3) := by decide +kernel
theorem dX12_goesRound_201 : decode cX12_goesRound 201 = .ok (.iconst 0, 1) := by decide +kernel
theorem dX12_goesRound_202 : decode cX12_goesRound 202 = .ok (.iaload, 1) := by decide +kernel
theorem dX12_goesRound_203 : decode cX12_goesRound 203 = .ok (.iconst 3, 1) := by decide +kernel
theorem dX12_goesRound_204 : decode cX12_goesRound 204 = .ok (.if_icmp .ne 8, 3) := by decide +kernel
theorem dX12_goesRound_207 : decode cX12_goesRound 207 = .ok (.iload 4, 2) := by decide +kernel
theorem dX12_goesRound_209 : decode cX12_goesRound 209 = .ok (.goto 4, 3) := by decide +kernel
theorem dX12_goesRound_212 : decode cX12_goesRound 212 = .ok (.iconst (-1), 1) := by decide +kernel
theorem dX12_goesRound_213 : decode cX12_goesRound 213 = .ok (.invokevirtual 185, 3) := by decide +kernel
theorem dX12_goesRound_216 : decode cX12_goesRound 216 = .ok (.iadd, 1) := by decide +kernel
theorem dX12_goesRound_217 : decode cX12_goesRound 217 = .ok (.istore_n 2, 1) := by decide +kernel
theorem dX12_goesRound_218 : decode cX12_goesRound 218 = .ok (.iinc 5 1, 3) := by decide +kernel
theorem dX12_goesRound_221 : decode cX12_goesRound 221 = .ok (.goto (-69), 3) := by decide +kernel
theorem dX12_goesRound_224 : decode cX12_goesRound 224 = .ok (.iinc 4 1, 3) := by decide +kernel
theorem dX12_goesRound_227 : decode cX12_goesRound 227 = .ok (.goto (-84), 3) := by decide +kernel
theorem dX12_goesRound_230 : decode cX12_goesRound 230 = .ok (.iload_n 2, 1) := by decide +kernel
theorem dX12_goesRound_231 : decode cX12_goesRound 231 = .ok (.ireturn, 1) := by decide +kernel
theorem dX12_round_0 : decode cX12_round 0 = .ok (.aload_n 0, 1) := by decide +kernel
theorem dX12_round_1 : decode cX12_round 1 = .ok (.invokevirtual 116, 3) := by decide +kernel
theorem dX12_round_4 : decode cX12_round 4 = .ok (.aload_n 0, 1) := by decide +kernel
theorem dX12_round_5 : decode cX12_round 5 = .ok (.invokevirtual 188, 3) := by decide +kernel
theorem dX12_round_8 : decode cX12_round 8 = .ok (.ireturn, 1) := by decide +kernel
theorem dX12_rounds_0 : decode cX12_rounds 0 = .ok (.iload_n 1, 1) := by decide +kernel
theorem dX12_rounds_1 : decode cX12_rounds 1 = .ok (.iconst 1, 1) := by decide +kernel
theorem dX12_rounds_2 : decode cX12_rounds 2 = .ok (.bipush 9, 2) := by decide +kernel
theorem dX12_rounds_4 : decode cX12_rounds 4 = .ok (.invokestatic 79, 3) := by decide +kernel
theorem dX12_rounds_7 : decode cX12_rounds 7 = .ok (.ifCond .ne 10, 3) := by decide +kernel
theorem dX12_rounds_10 : decode cX12_rounds 10 = .ok (.aload_n 0, 1) := by decide +kernel
theorem dX12_rounds_11 : decode cX12_rounds 11 = .ok (.bipush (-2), 2) := by decide +kernel
theorem dX12_rounds_13 : decode cX12_rounds 13 = .ok (.invokevirtual 113, 3) := by decide +kernel
theorem dX12_rounds_16 : decode cX12_rounds 16 = .ok (.ireturn, 1) := by decide +kernel
theorem dX12_rounds_17 : decode cX12_rounds 17 = .ok (.aload_n 0, 1) := by decide +kernel
theorem dX12_rounds_18 : decode cX12_rounds 18 = .ok (.invokevirtual 116, 3) := by decide +kernel
theorem dX12_rounds_21 : decode cX12_rounds 21 = .ok (.iconst 0, 1) := by decide +kernel
theorem dX12_rounds_22 : decode cX12_rounds 22 = .ok (.istore_n 2, 1) := by decide +kernel
theorem dX12_rounds_23 : decode cX12_rounds 23 = .ok (.iconst 0, 1) := by decide +kernel
theorem dX12_rounds_24 : decode cX12_rounds 24 = .ok (.istore_n 3, 1) := by decide +kernel
theorem dX12_rounds_25 : decode cX12_rounds 25 = .ok (.iload_n 3, 1) := by decide +kernel
theorem dX12_rounds_26 : decode cX12_rounds 26 = .ok (.iload_n 1, 1) := by decide +kernel
theorem dX12_rounds_27 : decode cX12_rounds 27 = .ok (.if_icmp .ge 19, 3) := by decide +kernel
theorem dX12_rounds_30 : decode cX12_rounds 30 = .ok (.aload_n 0, 1) := by decide +kernel
theorem dX12_rounds_31 : decode cX12_rounds 31 = .ok (.invokevirtual 188, 3) := by decide +kernel
theorem dX12_rounds_34 : decode cX12_rounds 34 = .ok (.ifCond .le 12, 3) := by decide +kernel
theorem dX12_rounds_37 : decode cX12_rounds 37 = .ok (.iinc 2 1, 3) := by decide +kernel
theorem dX12_rounds_40 : decode cX12_rounds 40 = .ok (.iinc 3 1, 3) := by decide +kernel
theorem dX12_rounds_43 : decode cX12_rounds 43 = .ok (.goto (-18), 3) := by decide +kernel
theorem dX12_rounds_46 : decode cX12_rounds 46 = .ok (.iload_n 2, 1) := by decide +kernel
theorem dX12_rounds_47 : decode cX12_rounds 47 = .ok (.ireturn, 1) := by decide +kernel
theorem dX12_last_0 : decode cX12_last 0 = .ok (.iload_n 1, 1) := by decide +kernel
theorem dX12_last_1 : decode cX12_last 1 = .ok (.iconst 0, 1) := by decide +kernel
theorem dX12_last_2 : decode cX12_last 2 = .ok (.iconst 4, 1) := by decide +kernel
theorem dX12_last_3 : decode cX12_last 3 = .ok (.invokestatic 79, 3) := by decide +kernel
theorem dX12_last_6 : decode cX12_last 6 = .ok (.ifCond .eq 12, 3) := by decide +kernel
theorem dX12_last_9 : decode cX12_last 9 = .ok (.aload_n 0, 1) := by decide +kernel
theorem dX12_last_10 : decode cX12_last 10 = .ok (.getfield 22, 3) := by decide +kernel
theorem dX12_last_13 : decode cX12_last 13 = .ok (.iload_n 1, 1) := by decide +kernel
theorem dX12_last_14 : decode cX12_last 14 = .ok (.iaload, 1) := by decide +kernel
theorem dX12_last_15 : decode cX12_last 15 = .ok (.goto 9, 3) := by decide +kernel
theorem dX12_last_18 : decode cX12_last 18 = .ok (.aload_n 0, 1) := by decide +kernel
theorem dX12_last_19 : decode cX12_last 19 = .ok (.bipush (-2), 2) := by decide +kernel
theorem dX12_last_21 : decode cX12_last 21 = .ok (.invokevirtual 113, 3) := by decide +kernel
theorem dX12_last_24 : decode cX12_last 24 = .ok (.ireturn, 1) := by decide +kernel
theorem dX12_still_0 : decode cX12_still 0 = .ok (.iconst 0, 1) := by decide +kernel
theorem dX12_still_1 : decode cX12_still 1 = .ok (.istore_n 1, 1) := by decide +kernel
theorem dX12_still_2 : decode cX12_still 2 = .ok (.iload_n 1, 1) := by decide +kernel
theorem dX12_still_3 : decode cX12_still 3 = .ok (.sipush 984, 3) := by decide +kernel
theorem dX12_still_6 : decode cX12_still 6 = .ok (.if_icmp .ge 21, 3) := by decide +kernel
theorem dX12_still_9 : decode cX12_still 9 = .ok (.aload_n 0, 1) := by decide +kernel
theorem dX12_still_10 : decode cX12_still 10 = .ok (.getfield 16, 3) := by decide +kernel
theorem dX12_still_13 : decode cX12_still 13 = .ok (.iload_n 1, 1) := by decide +kernel
theorem dX12_still_14 : decode cX12_still 14 = .ok (.aload_n 0, 1) := by decide +kernel
theorem dX12_still_15 : decode cX12_still 15 = .ok (.getfield 7, 3) := by decide +kernel
theorem dX12_still_18 : decode cX12_still 18 = .ok (.iload_n 1, 1) := by decide +kernel
theorem dX12_still_19 : decode cX12_still 19 = .ok (.iaload, 1) := by decide +kernel
theorem dX12_still_20 : decode cX12_still 20 = .ok (.iastore, 1) := by decide +kernel
theorem dX12_still_21 : decode cX12_still 21 = .ok (.iinc 1 1, 3) := by decide +kernel
theorem dX12_still_24 : decode cX12_still 24 = .ok (.goto (-22), 3) := by decide +kernel
theorem dX12_still_27 : decode cX12_still 27 = .ok (.iconst 0, 1) := by decide +kernel
theorem dX12_still_28 : decode cX12_still 28 = .ok (.istore_n 1, 1) := by decide +kernel
theorem dX12_still_29 : decode cX12_still 29 = .ok (.iload_n 1, 1) := by decide +kernel
theorem dX12_still_30 : decode cX12_still 30 = .ok (.iconst 5, 1) := by decide +kernel
theorem dX12_still_31 : decode cX12_still 31 = .ok (.if_icmp .ge 21, 3) := by decide +kernel
theorem dX12_still_34 : decode cX12_still 34 = .ok (.aload_n 0, 1) := by decide +kernel
theorem dX12_still_35 : decode cX12_still 35 = .ok (.getfield 25, 3) := by decide +kernel
theorem dX12_still_38 : decode cX12_still 38 = .ok (.iload_n 1, 1) := by decide +kernel
theorem dX12_still_39 : decode cX12_still 39 = .ok (.aload_n 0, 1) := by decide +kernel
theorem dX12_still_40 : decode cX12_still 40 = .ok (.getfield 22, 3) := by decide +kernel
theorem dX12_still_43 : decode cX12_still 43 = .ok (.iload_n 1, 1) := by decide +kernel
theorem dX12_still_44 : decode cX12_still 44 = .ok (.iaload, 1) := by decide +kernel
theorem dX12_still_45 : decode cX12_still 45 = .ok (.iastore, 1) := by decide +kernel
theorem dX12_still_46 : decode cX12_still 46 = .ok (.iinc 1 1, 3) := by decide +kernel
theorem dX12_still_49 : decode cX12_still 49 = .ok (.goto (-20), 3) := by decide +kernel
theorem dX12_still_52 : decode cX12_still 52 = .ok (.aload_n 0, 1) := by decide +kernel
theorem dX12_still_53 : decode cX12_still 53 = .ok (.invokevirtual 188, 3) := by decide +kernel
theorem dX12_still_56 : decode cX12_still 56 = .ok (.istore_n 1, 1) := by decide +kernel
theorem dX12_still_57 : decode cX12_still 57 = .ok (.iconst 0, 1) := by decide +kernel
theorem dX12_still_58 : decode cX12_still 58 = .ok (.istore_n 2, 1) := by decide +kernel
theorem dX12_still_59 : decode cX12_still 59 = .ok (.iload_n 2, 1) := by decide +kernel
theorem dX12_still_60 : decode cX12_still 60 = .ok (.sipush 984, 3) := by decide +kernel
theorem dX12_still_63 : decode cX12_still 63 = .ok (.if_icmp .ge 21, 3) := by decide +kernel
theorem dX12_still_66 : decode cX12_still 66 = .ok (.aload_n 0, 1) := by decide +kernel
theorem dX12_still_67 : decode cX12_still 67 = .ok (.getfield 7, 3) := by decide +kernel
theorem dX12_still_70 : decode cX12_still 70 = .ok (.iload_n 2, 1) := by decide +kernel
theorem dX12_still_71 : decode cX12_still 71 = .ok (.aload_n 0, 1) := by decide +kernel
theorem dX12_still_72 : decode cX12_still 72 = .ok (.getfield 16, 3) := by decide +kernel
theorem dX12_still_75 : decode cX12_still 75 = .ok (.iload_n 2, 1) := by decide +kernel
theorem dX12_still_76 : decode cX12_still 76 = .ok (.iaload, 1) := by decide +kernel
theorem dX12_still_77 : decode cX12_still 77 = .ok (.iastore, 1) := by decide +kernel
theorem dX12_still_78 : decode cX12_still 78 = .ok (.iinc 2 1, 3) := by decide +kernel
theorem dX12_still_81 : decode cX12_still 81 = .ok (.goto (-22), 3) := by decide +kernel
theorem dX12_still_84 : decode cX12_still 84 = .ok (.iconst 0, 1) := by decide +kernel
theorem dX12_still_85 : decode cX12_still 85 = .ok (.istore_n 2, 1) := by decide +kernel
theorem dX12_still_86 : decode cX12_still 86 = .ok (.iload_n 2, 1) := by decide +kernel
theorem dX12_still_87 : decode cX12_still 87 = .ok (.iconst 5, 1) := by decide +kernel
theorem dX12_still_88 : decode cX12_still 88 = .ok (.if_icmp .ge 21, 3) := by decide +kernel
theorem dX12_still_91 : decode cX12_still 91 = .ok (.aload_n 0, 1) := by decide +kernel
theorem dX12_still_92 : decode cX12_still 92 = .ok (.getfield 22, 3) := by decide +kernel
theorem dX12_still_95 : decode cX12_still 95 = .ok (.iload_n 2, 1) := by decide +kernel
theorem dX12_still_96 : decode cX12_still 96 = .ok (.aload_n 0, 1) := by decide +kernel
theorem dX12_still_97 : decode cX12_still 97 = .ok (.getfield 25, 3) := by decide +kernel
theorem dX12_still_100 : decode cX12_still 100 = .ok (.iload_n 2, 1) := by decide +kernel
theorem dX12_still_101 : decode cX12_still 101 = .ok (.iaload, 1) := by decide +kernel
theorem dX12_still_102 : decode cX12_still 102 = .ok (.iastore, 1) := by decide +kernel
theorem dX12_still_103 : decode cX12_still 103 = .ok (.iinc 2 1, 3) := by decide +kernel
theorem dX12_still_106 : decode cX12_still 106 = .ok (.goto (-20), 3) := by decide +kernel
theorem dX12_still_109 : decode cX12_still 109 = .ok (.iload_n 1, 1) := by decide +kernel
theorem dX12_still_110 : decode cX12_still 110 = .ok (.ifCond .ne 7, 3) := by decide +kernel
theorem dX12_still_113 : decode cX12_still 113 = .ok (.iconst 1, 1) := by decide +kernel
theorem dX12_still_114 : decode cX12_still 114 = .ok (.goto 4, 3) := by decide +kernel
theorem dX12_still_117 : decode cX12_still 117 = .ok (.iconst 0, 1) := by decide +kernel
theorem dX12_still_118 : decode cX12_still 118 = .ok (.ireturn, 1) := by decide +kernel
theorem dX12_type_0 : decode cX12_type 0 = .ok (.iload_n 1, 1) := by decide +kernel
theorem dX12_type_1 : decode cX12_type 1 = .ok (.iconst 0, 1) := by decide +kernel
theorem dX12_type_2 : decode cX12_type 2 = .ok (.bipush 127, 2) := by decide +kernel
theorem dX12_type_4 : decode cX12_type 4 = .ok (.invokestatic 79, 3) := by decide +kernel
theorem dX12_type_7 : decode cX12_type 7 = .ok (.ifCond .ne 10, 3) := by decide +kernel
theorem dX12_type_10 : decode cX12_type 10 = .ok (.aload_n 0, 1) := by decide +kernel
theorem dX12_type_11 : decode cX12_type 11 = .ok (.bipush (-2), 2) := by decide +kernel
theorem dX12_type_13 : decode cX12_type 13 = .ok (.invokevirtual 113, 3) := by decide +kernel
theorem dX12_type_16 : decode cX12_type 16 = .ok (.ireturn, 1) := by decide +kernel
theorem dX12_type_17 : decode cX12_type 17 = .ok (.aload_n 0, 1) := by decide +kernel
theorem dX12_type_18 : decode cX12_type 18 = .ok (.getfield 192, 3) := by decide +kernel
theorem dX12_type_21 : decode cX12_type 21 = .ok (.bipush 120, 2) := by decide +kernel
theorem dX12_type_23 : decode cX12_type 23 = .ok (.if_icmp .ne 10, 3) := by decide +kernel
theorem dX12_type_26 : decode cX12_type 26 = .ok (.aload_n 0, 1) := by decide +kernel
theorem dX12_type_27 : decode cX12_type 27 = .ok (.bipush (-4), 2) := by decide +kernel
theorem dX12_type_29 : decode cX12_type 29 = .ok (.invokevirtual 113, 3) := by decide +kernel
theorem dX12_type_32 : decode cX12_type 32 = .ok (.ireturn, 1) := by decide +kernel
theorem dX12_type_33 : decode cX12_type 33 = .ok (.aload_n 0, 1) := by decide +kernel
theorem dX12_type_34 : decode cX12_type 34 = .ok (.getfield 31, 3) := by decide +kernel
theorem dX12_type_37 : decode cX12_type 37 = .ok (.aload_n 0, 1) := by decide +kernel
theorem dX12_type_38 : decode cX12_type 38 = .ok (.getfield 192, 3) := by decide +kernel
theorem dX12_type_41 : decode cX12_type 41 = .ok (.iload_n 1, 1) := by decide +kernel
theorem dX12_type_42 : decode cX12_type 42 = .ok (.iastore, 1) := by decide +kernel
theorem dX12_type_43 : decode cX12_type 43 = .ok (.aload_n 0, 1) := by decide +kernel
theorem dX12_type_44 : decode cX12_type 44 = .ok (.dup, 1) := by decide +kernel
theorem dX12_type_45 : decode cX12_type 45 = .ok (.getfield 192, 3) := by decide +kernel
theorem dX12_type_48 : decode cX12_type 48 = .ok (.iconst 1, 1) := by decide +kernel
theorem dX12_type_49 : decode cX12_type 49 = .ok (.iadd, 1) := by decide +kernel
theorem dX12_type_50 : decode cX12_type 50 = .ok (.putfield 192, 3) := by decide +kernel
theorem dX12_type_53 : decode cX12_type 53 = .ok (.aload_n 0, 1) := by decide +kernel
theorem dX12_type_54 : decode cX12_type 54 = .ok (.getfield 192, 3) := by decide +kernel
theorem dX12_type_57 : decode cX12_type 57 = .ok (.ireturn, 1) := by decide +kernel
theorem dX12_clear_0 : decode cX12_clear 0 = .ok (.aload_n 0, 1) := by decide +kernel
theorem dX12_clear_1 : decode cX12_clear 1 = .ok (.getfield 192, 3) := by decide +kernel
theorem dX12_clear_4 : decode cX12_clear 4 = .ok (.istore_n 1, 1) := by decide +kernel
theorem dX12_clear_5 : decode cX12_clear 5 = .ok (.aload_n 0, 1) := by decide +kernel
theorem dX12_clear_6 : decode cX12_clear 6 = .ok (.iconst 0, 1) := by decide +kernel
theorem dX12_clear_7 : decode cX12_clear 7 = .ok (.putfield 192, 3) := by decide +kernel
theorem dX12_clear_10 : decode cX12_clear 10 = .ok (.iload_n 1, 1) := by decide +kernel
theorem dX12_clear_11 : decode cX12_clear 11 = .ok (.ireturn, 1) := by decide +kernel
theorem dX12_byteAt_0 : decode cX12_byteAt 0 = .ok (.iload_n 1, 1) := by decide +kernel
theorem dX12_byteAt_1 : decode cX12_byteAt 1 = .ok (.aload_n 0, 1) := by decide +kernel
theorem dX12_byteAt_2 : decode cX12_byteAt 2 = .ok (.getfield 192, 3) := by decide +kernel
theorem dX12_byteAt_5 : decode cX12_byteAt 5 = .ok (.if_icmp .ge 12, 3) := by decide +kernel
theorem dX12_byteAt_8 : decode cX12_byteAt 8 = .ok (.aload_n 0, 1) := by decide +kernel
theorem dX12_byteAt_9 : decode cX12_byteAt 9 = .ok (.getfield 31, 3) := by decide +kernel
theorem dX12_byteAt_12 : decode cX12_byteAt 12 = .ok (.iload_n 1, 1) := by decide +kernel
theorem dX12_byteAt_13 : decode cX12_byteAt 13 = .ok (.iaload, 1) := by decide +kernel
theorem dX12_byteAt_14 : decode cX12_byteAt 14 = .ok (.goto 4, 3) := by decide +kernel
theorem dX12_byteAt_17 : decode cX12_byteAt 17 = .ok (.iconst (-1), 1) := by decide +kernel
theorem dX12_byteAt_18 : decode cX12_byteAt 18 = .ok (.ireturn, 1) := by decide +kernel
theorem dX12_skips_0 : decode cX12_skips 0 = .ok (.aload_n 0, 1) := by decide +kernel
theorem dX12_skips_1 : decode cX12_skips 1 = .ok (.aload_n 0, 1) := by decide +kernel
theorem dX12_skips_2 : decode cX12_skips 2 = .ok (.getfield 195, 3) := by decide +kernel
theorem dX12_skips_5 : decode cX12_skips 5 = .ok (.invokevirtual 198, 3) := by decide +kernel
theorem dX12_skips_8 : decode cX12_skips 8 = .ok (.bipush 32, 2) := by decide +kernel
theorem dX12_skips_10 : decode cX12_skips 10 = .ok (.if_icmp .ne 16, 3) := by decide +kernel
theorem dX12_skips_13 : decode cX12_skips 13 = .ok (.aload_n 0, 1) := by decide +kernel
theorem dX12_skips_14 : decode cX12_skips 14 = .ok (.dup, 1) := by decide +kernel
theorem dX12_skips_15 : decode cX12_skips 15 = .ok (.getfield 195, 3) := by decide +kernel
theorem dX12_skips_18 : decode cX12_skips 18 = .ok (.iconst 1, 1) := by decide +kernel
theorem dX12_skips_19 : decode cX12_skips 19 = .ok (.iadd, 1) := by decide +kernel
theorem dX12_skips_20 : decode cX12_skips 20 = .ok (.putfield 195, 3) := by decide +kernel
theorem dX12_skips_23 : decode cX12_skips 23 = .ok (.goto (-23), 3) := by decide +kernel
theorem dX12_skips_26 : decode cX12_skips 26 = .ok (.return_, 1) := by decide +kernel
theorem dX12_is_0 : decode cX12_is 0 = .ok (.aload_n 0, 1) := by decide +kernel
theorem dX12_is_1 : decode cX12_is 1 = .ok (.invokevirtual 201, 3) := by decide +kernel
theorem dX12_is_4 : decode cX12_is 4 = .ok (.aload_n 0, 1) := by decide +kernel
theorem dX12_is_5 : decode cX12_is 5 = .ok (.aload_n 0, 1) := by decide +kernel
theorem dX12_is_6 : decode cX12_is 6 = .ok (.getfield 195, 3) := by decide +kernel
theorem dX12_is_9 : decode cX12_is 9 = .ok (.invokevirtual 198, 3) := by decide +kernel
theorem dX12_is_12 : decode cX12_is 12 = .ok (.iload_n 1, 1) := by decide +kernel
theorem dX12_is_13 : decode cX12_is 13 = .ok (.if_icmp .ne 7, 3) := by decide +kernel
theorem dX12_is_16 : decode cX12_is 16 = .ok (.iconst 1, 1) := by decide +kernel
theorem dX12_is_17 : decode cX12_is 17 = .ok (.goto 4, 3) := by decide +kernel
theorem dX12_is_20 : decode cX12_is 20 = .ok (.iconst 0, 1) := by decide +kernel
theorem dX12_is_21 : decode cX12_is 21 = .ok (.istore_n 2, 1) := by decide +kernel
theorem dX12_is_22 : decode cX12_is 22 = .ok (.aload_n 0, 1) := by decide +kernel
theorem dX12_is_23 : decode cX12_is 23 = .ok (.dup, 1) := by decide +kernel
theorem dX12_is_24 : decode cX12_is 24 = .ok (.getfield 195, 3) := by decide +kernel
theorem dX12_is_27 : decode cX12_is 27 = .ok (.iload_n 2, 1) := by decide +kernel
theorem dX12_is_28 : decode cX12_is 28 = .ok (.ifCond .eq 7, 3) := by decide +kernel
theorem dX12_is_31 : decode cX12_is 31 = .ok (.iconst 1, 1) := by decide +kernel
theorem dX12_is_32 : decode cX12_is 32 = .ok (.goto 4, 3) := by decide +kernel
theorem dX12_is_35 : decode cX12_is 35 = .ok (.iconst 0, 1) := by decide +kernel
theorem dX12_is_36 : decode cX12_is 36 = .ok (.iadd, 1) := by decide +kernel
theorem dX12_is_37 : decode cX12_is 37 = .ok (.putfield 195, 3) := by decide +kernel
theorem dX12_is_40 : decode cX12_is 40 = .ok (.iload_n 2, 1) := by decide +kernel
theorem dX12_is_41 : decode cX12_is 41 = .ok (.ireturn, 1) := by decide +kernel
theorem dX12_signBy_0 : decode cX12_signBy 0 = .ok (.iload_n 0, 1) := by decide +kernel
theorem dX12_signBy_1 : decode cX12_signBy 1 = .ok (.bipush 97, 2) := by decide +kernel
theorem dX12_signBy_3 : decode cX12_signBy 3 = .ok (.bipush 100, 2) := by decide +kernel
theorem dX12_signBy_5 : decode cX12_signBy 5 = .ok (.invokestatic 79, 3) := by decide +kernel
theorem dX12_signBy_8 : decode cX12_signBy 8 = .ok (.ifCond .eq 10, 3) := by decide +kernel
theorem dX12_signBy_11 : decode cX12_signBy 11 = .ok (.iload_n 0, 1) := by decide +kernel
theorem dX12_signBy_12 : decode cX12_signBy 12 = .ok (.bipush 97, 2) := by decide +kernel
theorem dX12_signBy_14 : decode cX12_signBy 14 = .ok (.isub, 1) := by decide +kernel
theorem dX12_signBy_15 : decode cX12_signBy 15 = .ok (.goto 45, 3) := by decide +kernel
theorem dX12_signBy_18 : decode cX12_signBy 18 = .ok (.iload_n 0, 1) := by decide +kernel
theorem dX12_signBy_19 : decode cX12_signBy 19 = .ok (.bipush 102, 2) := by decide +kernel
theorem dX12_signBy_21 : decode cX12_signBy 21 = .ok (.bipush 104, 2) := by decide +kernel
theorem dX12_signBy_23 : decode cX12_signBy 23 = .ok (.invokestatic 79, 3) := by decide +kernel
theorem dX12_signBy_26 : decode cX12_signBy 26 = .ok (.ifCond .eq 12, 3) := by decide +kernel
theorem dX12_signBy_29 : decode cX12_signBy 29 = .ok (.iload_n 0, 1) := by decide +kernel
theorem dX12_signBy_30 : decode cX12_signBy 30 = .ok (.bipush 102, 2) := by decide +kernel
theorem dX12_signBy_32 : decode cX12_signBy 32 = .ok (.isub, 1) := by decide +kernel
theorem dX12_signBy_33 : decode cX12_signBy 33 = .ok (.iconst 4, 1) := by decide +kernel
theorem dX12_signBy_34 : decode cX12_signBy 34 = .ok (.iadd, 1) := by decide +kernel
theorem dX12_signBy_35 : decode cX12_signBy 35 = .ok (.goto 25, 3) := by decide +kernel
theorem dX12_signBy_38 : decode cX12_signBy 38 = .ok (.iload_n 0, 1) := by decide +kernel
theorem dX12_signBy_39 : decode cX12_signBy 39 = .ok (.bipush 120, 2) := by decide +kernel
theorem dX12_signBy_41 : decode cX12_signBy 41 = .ok (.bipush 122, 2) := by decide +kernel
theorem dX12_signBy_43 : decode cX12_signBy 43 = .ok (.invokestatic 79, 3) := by decide +kernel
theorem dX12_signBy_46 : decode cX12_signBy 46 = .ok (.ifCond .eq 13, 3) := by decide +kernel
theorem dX12_signBy_49 : decode cX12_signBy 49 = .ok (.iload_n 0, 1) := by decide +kernel
theorem dX12_signBy_50 : decode cX12_signBy 50 = .ok (.bipush 120, 2) := by decide +kernel
theorem dX12_signBy_52 : decode cX12_signBy 52 = .ok (.isub, 1) := by decide +kernel
theorem dX12_signBy_53 : decode cX12_signBy 53 = .ok (.bipush 7, 2) := by decide +kernel
theorem dX12_signBy_55 : decode cX12_signBy 55 = .ok (.iadd, 1) := by decide +kernel
theorem dX12_signBy_56 : decode cX12_signBy 56 = .ok (.goto 4, 3) := by decide +kernel
theorem dX12_signBy_59 : decode cX12_signBy 59 = .ok (.iconst (-1), 1) := by decide +kernel
theorem dX12_signBy_60 : decode cX12_signBy 60 = .ok (.ireturn, 1) := by decide +kernel
theorem dX12_side_0 : decode cX12_side 0 = .ok (.aload_n 0, 1) := by decide +kernel
theorem dX12_side_1 : decode cX12_side 1 = .ok (.iconst 0, 1) := by decide +kernel
theorem dX12_side_2 : decode cX12_side 2 = .ok (.putfield 204, 3) := by decide +kernel
theorem dX12_side_5 : decode cX12_side 5 = .ok (.aload_n 0, 1) := by decide +kernel
theorem dX12_side_6 : decode cX12_side 6 = .ok (.iconst 0, 1) := by decide +kernel
theorem dX12_side_7 : decode cX12_side 7 = .ok (.putfield 207, 3) := by decide +kernel
theorem dX12_side_10 : decode cX12_side 10 = .ok (.iconst 0, 1) := by decide +kernel
theorem dX12_side_11 : decode cX12_side 11 = .ok (.istore_n 3, 1) := by decide +kernel
theorem dX12_side_12 : decode cX12_side 12 = .ok (.aload_n 0, 1) := by decide +kernel
theorem dX12_side_13 : decode cX12_side 13 = .ok (.invokevirtual 201, 3) := by decide +kernel
theorem dX12_side_16 : decode cX12_side 16 = .ok (.aload_n 0, 1) := by decide +kernel
theorem dX12_side_17 : decode cX12_side 17 = .ok (.aload_n 0, 1) := by decide +kernel
theorem dX12_side_18 : decode cX12_side 18 = .ok (.getfield 195, 3) := by decide +kernel
theorem dX12_side_21 : decode cX12_side 21 = .ok (.invokevirtual 198, 3) := by decide +kernel
theorem dX12_side_24 : decode cX12_side 24 = .ok (.invokestatic 210, 3) := by decide +kernel
theorem dX12_side_27 : decode cX12_side 27 = .ok (.istore 4, 2) := by decide +kernel
theorem dX12_side_29 : decode cX12_side 29 = .ok (.iload 4, 2) := by decide +kernel
theorem dX12_side_31 : decode cX12_side 31 = .ok (.ifCond .lt 22, 3) := by decide +kernel
theorem dX12_side_34 : decode cX12_side 34 = .ok (.iload 4, 2) := by decide +kernel
theorem dX12_side_36 : decode cX12_side 36 = .ok (.bipush 7, 2) := by decide +kernel
theorem dX12_side_38 : decode cX12_side 38 = .ok (.if_icmp .lt 17, 3) := by decide +kernel
theorem dX12_side_41 : decode cX12_side 41 = .ok (.iload_n 2, 1) := by decide +kernel
theorem dX12_side_42 : decode cX12_side 42 = .ok (.iload 4, 2) := by decide +kernel
theorem dX12_side_44 : decode cX12_side 44 = .ok (.bipush 7, 2) := by decide +kernel
theorem dX12_side_46 : decode cX12_side 46 = .ok (.isub, 1) := by decide +kernel
theorem dX12_side_47 : decode cX12_side 47 = .ok (.ishr, 1) := by decide +kernel
theorem dX12_side_48 : decode cX12_side 48 = .ok (.iconst 1, 1) := by decide +kernel
theorem dX12_side_49 : decode cX12_side 49 = .ok (.iand, 1) := by decide +kernel
theorem dX12_side_50 : decode cX12_side 50 = .ok (.ifCond .ne 5, 3) := by decide +kernel
theorem dX12_side_53 : decode cX12_side 53 = .ok (.iconst 0, 1) := by decide +kernel
theorem dX12_side_54 : decode cX12_side 54 = .ok (.ireturn, 1) := by decide +kernel
theorem dX12_side_55 : decode cX12_side 55 = .ok (.aload_n 0, 1) := by decide +kernel
theorem dX12_side_56 : decode cX12_side 56 = .ok (.dup, 1) := by decide +kernel
theorem dX12_side_57 : decode cX12_side 57 = .ok (.getfield 207, 3) := by decide +kernel
theorem dX12_side_60 : decode cX12_side 60 = .ok (.iload 4, 2) := by decide +kernel
theorem dX12_side_62 : decode cX12_side 62 = .ok (.bipush 7, 2) := by decide +kernel
theorem dX12_side_64 : decode cX12_side 64 = .ok (.if_icmp .lt 13, 3) := by decide +kernel
theorem dX12_side_67 : decode cX12_side 67 = .ok (.iconst 1, 1) := by decide +kernel
theorem dX12_side_68 : decode cX12_side 68 = .ok (.iload 4, 2) := by decide +kernel
theorem dX12_side_70 : decode cX12_side 70 = .ok (.bipush 7, 2) := by decide +kernel
theorem dX12_side_72 : decode cX12_side 72 = .ok (.isub, 1) := by decide +kernel
theorem dX12_side_73 : decode cX12_side 73 = .ok (.ishl, 1) := by decide +kernel
theorem dX12_side_74 : decode cX12_side 74 = .ok (.goto 4, 3) := by decide +kernel
theorem dX12_side_77 : decode cX12_side 77 = .ok (.iconst 0, 1) := by decide +kernel
theorem dX12_side_78 : decode cX12_side 78 = .ok (.ior, 1) := by decide +kernel
theorem dX12_side_79 : decode cX12_side 79 = .ok (.putfield 207, 3) := by decide +kernel
theorem dX12_side_82 : decode cX12_side 82 = .ok (.aload_n 0, 1) := by decide +kernel
theorem dX12_side_83 : decode cX12_side 83 = .ok (.dup, 1) := by decide +kernel
theorem dX12_side_84 : decode cX12_side 84 = .ok (.getfield 195, 3) := by decide +kernel
theorem dX12_side_87 : decode cX12_side 87 = .ok (.iconst 1, 1) := by decide +kernel
theorem dX12_side_88 : decode cX12_side 88 = .ok (.iadd, 1) := by decide +kernel
theorem dX12_side_89 : decode cX12_side 89 = .ok (.putfield 195, 3) := by decide +kernel
theorem dX12_side_92 : decode cX12_side 92 = .ok (.aload_n 1, 1) := by decide +kernel
theorem dX12_side_93 : decode cX12_side 93 = .ok (.aload_n 0, 1) := by decide +kernel
theorem dX12_side_94 : decode cX12_side 94 = .ok (.getfield 204, 3) := by decide +kernel
theorem dX12_side_97 : decode cX12_side 97 = .ok (.iload 4, 2) := by decide +kernel
theorem dX12_side_99 : decode cX12_side 99 = .ok (.iastore, 1) := by decide +kernel
theorem dX12_side_100 : decode cX12_side 100 = .ok (.aload_n 0, 1) := by decide +kernel
theorem dX12_side_101 : decode cX12_side 101 = .ok (.dup, 1) := by decide +kernel
theorem dX12_side_102 : decode cX12_side 102 = .ok (.getfield 204, 3) := by decide +kernel
theorem dX12_side_105 : decode cX12_side 105 = .ok (.iconst 1, 1) := by decide +kernel
theorem dX12_side_106 : decode cX12_side 106 = .ok (.iadd, 1) := by decide +kernel
theorem dX12_side_107 : decode cX12_side 107 = .ok (.putfield 204, 3) := by decide +kernel
theorem dX12_side_110 : decode cX12_side 110 = .ok (.iload 4, 2) := by decide +kernel
theorem dX12_side_112 : decode cX12_side 112 = .ok (.invokestatic 106, 3) := by decide +kernel
theorem dX12_side_115 : decode cX12_side 115 = .ok (.ifCond .le 31, 3) := by decide +kernel
theorem dX12_side_118 : decode cX12_side 118 = .ok (.aload_n 0, 1) := by decide +kernel
theorem dX12_side_119 : decode cX12_side 119 = .ok (.bipush 40, 2) := by decide +kernel
theorem dX12_side_121 : decode cX12_side 121 = .ok (.invokevirtual 213, 3) := by decide +kernel
theorem dX12_side_124 : decode cX12_side 124 = .ok (.ifCond .ne 5, 3) := by decide +kernel
theorem dX12_side_127 : decode cX12_side 127 = .ok (.iconst 0, 1) := by decide +kernel
theorem dX12_side_128 : decode cX12_side 128 = .ok (.ireturn, 1) := by decide +kernel
theorem dX12_side_129 : decode cX12_side 129 = .ok (.aload_n 0, 1) := by decide +kernel
theorem dX12_side_130 : decode cX12_side 130 = .ok (.getfield 46, 3) := by decide +kernel
theorem dX12_side_133 : decode cX12_side 133 = .ok (.iload_n 3, 1) := by decide +kernel
theorem dX12_side_134 : decode cX12_side 134 = .ok (.iload 4, 2) := by decide +kernel
theorem dX12_side_136 : decode cX12_side 136 = .ok (.invokestatic 106, 3) := by decide +kernel
theorem dX12_side_139 : decode cX12_side 139 = .ok (.iastore, 1) := by decide +kernel
theorem dX12_side_140 : decode cX12_side 140 = .ok (.iinc 3 1, 3) := by decide +kernel
theorem dX12_side_143 : decode cX12_side 143 = .ok (.goto 89, 3) := by decide +kernel
theorem dX12_side_146 : decode cX12_side 146 = .ok (.iconst 0, 1) := by decide +kernel
theorem dX12_side_147 : decode cX12_side 147 = .ok (.istore 5, 2) := by decide +kernel
theorem dX12_side_149 : decode cX12_side 149 = .ok (.iload_n 3, 1) := by decide +kernel
theorem dX12_side_150 : decode cX12_side 150 = .ok (.ifCond .le 75, 3) := by decide +kernel
theorem dX12_side_153 : decode cX12_side 153 = .ok (.iload 5, 2) := by decide +kernel
theorem dX12_side_155 : decode cX12_side 155 = .ok (.ifCond .ne 70, 3) := by decide +kernel
theorem dX12_side_158 : decode cX12_side 158 = .ok (.aload_n 0, 1) := by decide +kernel
theorem dX12_side_159 : decode cX12_side 159 = .ok (.getfield 46, 3) := by decide +kernel
theorem dX12_side_162 : decode cX12_side 162 = .ok (.iload_n 3, 1) := by decide +kernel
theorem dX12_side_163 : decode cX12_side 163 = .ok (.iconst 1, 1) := by decide +kernel
theorem dX12_side_164 : decode cX12_side 164 = .ok (.isub, 1) := by decide +kernel
theorem dX12_side_165 : decode cX12_side 165 = .ok (.dup2, 1) := by decide +kernel
theorem dX12_side_166 : decode cX12_side 166 = .ok (.iaload, 1) := by decide +kernel
theorem dX12_side_167 : decode cX12_side 167 = .ok (.iconst 1, 1) := by decide +kernel
theorem dX12_side_168 : decode cX12_side 168 = .ok (.isub, 1) := by decide +kernel
theorem dX12_side_169 : decode cX12_side 169 = .ok (.iastore, 1) := by decide +kernel
theorem dX12_side_170 : decode cX12_side 170 = .ok (.aload_n 0, 1) := by decide +kernel
theorem dX12_side_171 : decode cX12_side 171 = .ok (.getfield 46, 3) := by decide +kernel
theorem dX12_side_174 : decode cX12_side 174 = .ok (.iload_n 3, 1) := by decide +kernel
theorem dX12_side_175 : decode cX12_side 175 = .ok (.iconst 1, 1) := by decide +kernel
theorem dX12_side_176 : decode cX12_side 176 = .ok (.isub, 1) := by decide +kernel
theorem dX12_side_177 : decode cX12_side 177 = .ok (.iaload, 1) := by decide +kernel
theorem dX12_side_178 : decode cX12_side 178 = .ok (.ifCond .le 7, 3) := by decide +kernel
theorem dX12_side_181 : decode cX12_side 181 = .ok (.iconst 1, 1) := by decide +kernel
theorem dX12_side_182 : decode cX12_side 182 = .ok (.goto 4, 3) := by decide +kernel
theorem dX12_side_185 : decode cX12_side 185 = .ok (.iconst 0, 1) := by decide +kernel
theorem dX12_side_186 : decode cX12_side 186 = .ok (.istore 5, 2) := by decide +kernel
theorem dX12_side_188 : decode cX12_side 188 = .ok (.aload_n 0, 1) := by decide +kernel
theorem dX12_side_189 : decode cX12_side 189 = .ok (.iload 5, 2) := by decide +kernel
theorem dX12_side_191 : decode cX12_side 191 = .ok (.ifCond .eq 8, 3) := by decide +kernel
theorem dX12_side_194 : decode cX12_side 194 = .ok (.bipush 44, 2) := by decide +kernel
theorem dX12_side_196 : decode cX12_side 196 = .ok (.goto 5, 3) := by decide +kernel
theorem dX12_side_199 : decode cX12_side 199 = .ok (.bipush 41, 2) := by decide +kernel
theorem dX12_side_201 : decode cX12_side 201 = .ok (.invokevirtual 213, 3) := by decide +kernel
theorem dX12_side_204 : decode cX12_side 204 = .ok (.ifCond .ne 5, 3) := by decide +kernel
theorem dX12_side_207 : decode cX12_side 207 = .ok (.iconst 0, 1) := by decide +kernel
theorem dX12_side_208 : decode cX12_side 208 = .ok (.ireturn, 1) := by decide +kernel
theorem dX12_side_209 : decode cX12_side 209 = .ok (.iload_n 3, 1) := by decide +kernel
theorem dX12_side_210 : decode cX12_side 210 = .ok (.iload 5, 2) := by decide +kernel
theorem dX12_side_212 : decode cX12_side 212 = .ok (.ifCond .eq 7, 3) := by decide +kernel
theorem dX12_side_215 : decode cX12_side 215 = .ok (.iconst 0, 1) := by decide +kernel
theorem dX12_side_216 : decode cX12_side 216 = .ok (.goto 4, 3) := by decide +kernel
theorem dX12_side_219 : decode cX12_side 219 = .ok (.iconst 1, 1) := by decide +kernel
theorem dX12_side_220 : decode cX12_side 220 = .ok (.isub, 1) := by decide +kernel
theorem dX12_side_221 : decode cX12_side 221 = .ok (.istore_n 3, 1) := by decide +kernel
theorem dX12_side_222 : decode cX12_side 222 = .ok (.goto (-73), 3) := by decide +kernel
theorem dX12_side_225 : decode cX12_side 225 = .ok (.iload 5, 2) := by decide +kernel
theorem dX12_side_227 : decode cX12_side 227 = .ok (.ifCond .ne 5, 3) := by decide +kernel
theorem dX12_side_230 : decode cX12_side 230 = .ok (.iconst 1, 1) := by decide +kernel
theorem dX12_side_231 : decode cX12_side 231 = .ok (.ireturn, 1) := by decide +kernel
theorem dX12_side_232 : decode cX12_side 232 = .ok (.goto (-220), 3) := by decide +kernel
theorem dX12_rules_0 : decode cX12_rules 0 = .ok (.aload_n 0, 1) := by decide +kernel
theorem dX12_rules_1 : decode cX12_rules 1 = .ok (.getfield 7, 3) := by decide +kernel
theorem dX12_rules_4 : decode cX12_rules 4 = .ok (.iconst 1, 1) := by decide +kernel
theorem dX12_rules_5 : decode cX12_rules 5 = .ok (.iaload, 1) := by decide +kernel
theorem dX12_rules_6 : decode cX12_rules 6 = .ok (.istore_n 1, 1) := by decide +kernel
theorem dX12_rules_7 : decode cX12_rules 7 = .ok (.aload_n 0, 1) := by decide +kernel
theorem dX12_rules_8 : decode cX12_rules 8 = .ok (.getfield 7, 3) := by decide +kernel
theorem dX12_rules_11 : decode cX12_rules 11 = .ok (.sipush 252, 3) := by decide +kernel
theorem dX12_rules_14 : decode cX12_rules 14 = .ok (.iload_n 1, 1) := by decide +kernel
theorem dX12_rules_15 : decode cX12_rules 15 = .ok (.iadd, 1) := by decide +kernel
theorem dX12_rules_16 : decode cX12_rules 16 = .ok (.aload_n 0, 1) := by decide +kernel
theorem dX12_rules_17 : decode cX12_rules 17 = .ok (.getfield 216, 3) := by decide +kernel
theorem dX12_rules_20 : decode cX12_rules 20 = .ok (.iastore, 1) := by decide +kernel
theorem dX12_rules_21 : decode cX12_rules 21 = .ok (.aload_n 0, 1) := by decide +kernel
theorem dX12_rules_22 : decode cX12_rules 22 = .ok (.getfield 7, 3) := by decide +kernel
theorem dX12_rules_25 : decode cX12_rules 25 = .ok (.sipush 258, 3) := by decide +kernel
theorem dX12_rules_28 : decode cX12_rules 28 = .ok (.iload_n 1, 1) := by decide +kernel
theorem dX12_rules_29 : decode cX12_rules 29 = .ok (.iadd, 1) := by decide +kernel
theorem dX12_rules_30 : decode cX12_rules 30 = .ok (.aload_n 0, 1) := by decide +kernel
theorem dX12_rules_31 : decode cX12_rules 31 = .ok (.getfield 219, 3) := by decide +kernel
theorem dX12_rules_34 : decode cX12_rules 34 = .ok (.iastore, 1) := by decide +kernel
end
section
theorem dX12_rules_35 : decode cX12_rules 35 = .ok (.iconst 0, 1) := by decide +kernel
theorem dX12_rules_36 : decode cX12_rules 36 = .ok (.istore_n 2, 1) := by decide +kernel
theorem dX12_rules_37 : decode cX12_rules 37 = .ok (.iload_n 2, 1) := by decide +kernel
theorem dX12_rules_38 : decode cX12_rules 38 = .ok (.aload_n 0, 1) := by decide +kernel
theorem dX12_rules_39 : decode cX12_rules 39 = .ok (.getfield 216, 3) := by decide +kernel
theorem dX12_rules_42 : decode cX12_rules 42 = .ok (.if_icmp .ge 30, 3) := by decide +kernel
theorem dX12_rules_45 : decode cX12_rules 45 = .ok (.aload_n 0, 1) := by decide +kernel
theorem dX12_rules_46 : decode cX12_rules 46 = .ok (.getfield 7, 3) := by decide +kernel
theorem dX12_rules_49 : decode cX12_rules 49 = .ok (.sipush 264, 3) := by decide +kernel
theorem dX12_rules_52 : decode cX12_rules 52 = .ok (.bipush 120, 2) := by decide +kernel
theorem dX12_rules_54 : decode cX12_rules 54 = .ok (.iload_n 1, 1) := by decide +kernel
theorem dX12_rules_55 : decode cX12_rules 55 = .ok (.imul, 1) := by decide +kernel
theorem dX12_rules_56 : decode cX12_rules 56 = .ok (.iadd, 1) := by decide +kernel
theorem dX12_rules_57 : decode cX12_rules 57 = .ok (.iload_n 2, 1) := by decide +kernel
theorem dX12_rules_58 : decode cX12_rules 58 = .ok (.iadd, 1) := by decide +kernel
theorem dX12_rules_59 : decode cX12_rules 59 = .ok (.aload_n 0, 1) := by decide +kernel
theorem dX12_rules_60 : decode cX12_rules 60 = .ok (.getfield 34, 3) := by decide +kernel
theorem dX12_rules_63 : decode cX12_rules 63 = .ok (.iload_n 2, 1) := by decide +kernel
theorem dX12_rules_64 : decode cX12_rules 64 = .ok (.iaload, 1) := by decide +kernel
theorem dX12_rules_65 : decode cX12_rules 65 = .ok (.iastore, 1) := by decide +kernel
theorem dX12_rules_66 : decode cX12_rules 66 = .ok (.iinc 2 1, 3) := by decide +kernel
theorem dX12_rules_69 : decode cX12_rules 69 = .ok (.goto (-32), 3) := by decide +kernel
theorem dX12_rules_72 : decode cX12_rules 72 = .ok (.iconst 0, 1) := by decide +kernel
theorem dX12_rules_73 : decode cX12_rules 73 = .ok (.istore_n 2, 1) := by decide +kernel
theorem dX12_rules_74 : decode cX12_rules 74 = .ok (.iload_n 2, 1) := by decide +kernel
theorem dX12_rules_75 : decode cX12_rules 75 = .ok (.aload_n 0, 1) := by decide +kernel
theorem dX12_rules_76 : decode cX12_rules 76 = .ok (.getfield 219, 3) := by decide +kernel
theorem dX12_rules_79 : decode cX12_rules 79 = .ok (.if_icmp .ge 35, 3) := by decide +kernel
theorem dX12_rules_82 : decode cX12_rules 82 = .ok (.aload_n 0, 1) := by decide +kernel
theorem dX12_rules_83 : decode cX12_rules 83 = .ok (.getfield 7, 3) := by decide +kernel
theorem dX12_rules_86 : decode cX12_rules 86 = .ok (.sipush 264, 3) := by decide +kernel
theorem dX12_rules_89 : decode cX12_rules 89 = .ok (.bipush 120, 2) := by decide +kernel
theorem dX12_rules_91 : decode cX12_rules 91 = .ok (.iload_n 1, 1) := by decide +kernel
theorem dX12_rules_92 : decode cX12_rules 92 = .ok (.imul, 1) := by decide +kernel
theorem dX12_rules_93 : decode cX12_rules 93 = .ok (.iadd, 1) := by decide +kernel
theorem dX12_rules_94 : decode cX12_rules 94 = .ok (.aload_n 0, 1) := by decide +kernel
theorem dX12_rules_95 : decode cX12_rules 95 = .ok (.getfield 216, 3) := by decide +kernel
theorem dX12_rules_98 : decode cX12_rules 98 = .ok (.iadd, 1) := by decide +kernel
theorem dX12_rules_99 : decode cX12_rules 99 = .ok (.iload_n 2, 1) := by decide +kernel
theorem dX12_rules_100 : decode cX12_rules 100 = .ok (.iadd, 1) := by decide +kernel
theorem dX12_rules_101 : decode cX12_rules 101 = .ok (.aload_n 0, 1) := by decide +kernel
theorem dX12_rules_102 : decode cX12_rules 102 = .ok (.getfield 37, 3) := by decide +kernel
theorem dX12_rules_105 : decode cX12_rules 105 = .ok (.iload_n 2, 1) := by decide +kernel
theorem dX12_rules_106 : decode cX12_rules 106 = .ok (.iaload, 1) := by decide +kernel
theorem dX12_rules_107 : decode cX12_rules 107 = .ok (.iastore, 1) := by decide +kernel
theorem dX12_rules_108 : decode cX12_rules 108 = .ok (.iinc 2 1, 3) := by decide +kernel
theorem dX12_rules_111 : decode cX12_rules 111 = .ok (.goto (-37), 3) := by decide +kernel
theorem dX12_rules_114 : decode cX12_rules 114 = .ok (.aload_n 0, 1) := by decide +kernel
theorem dX12_rules_115 : decode cX12_rules 115 = .ok (.getfield 7, 3) := by decide +kernel
theorem dX12_rules_118 : decode cX12_rules 118 = .ok (.iconst 1, 1) := by decide +kernel
theorem dX12_rules_119 : decode cX12_rules 119 = .ok (.dup2, 1) := by decide +kernel
theorem dX12_rules_120 : decode cX12_rules 120 = .ok (.iaload, 1) := by decide +kernel
theorem dX12_rules_121 : decode cX12_rules 121 = .ok (.iconst 1, 1) := by decide +kernel
theorem dX12_rules_122 : decode cX12_rules 122 = .ok (.iadd, 1) := by decide +kernel
theorem dX12_rules_123 : decode cX12_rules 123 = .ok (.iastore, 1) := by decide +kernel
theorem dX12_rules_124 : decode cX12_rules 124 = .ok (.return_, 1) := by decide +kernel
theorem dX12_sentence_0 : decode cX12_sentence 0 = .ok (.aload_n 0, 1) := by decide +kernel
theorem dX12_sentence_1 : decode cX12_sentence 1 = .ok (.aload_n 0, 1) := by decide +kernel
theorem dX12_sentence_2 : decode cX12_sentence 2 = .ok (.getfield 34, 3) := by decide +kernel
theorem dX12_sentence_5 : decode cX12_sentence 5 = .ok (.bipush 7, 2) := by decide +kernel
theorem dX12_sentence_7 : decode cX12_sentence 7 = .ok (.invokevirtual 222, 3) := by decide +kernel
theorem dX12_sentence_10 : decode cX12_sentence 10 = .ok (.ifCond .ne 5, 3) := by decide +kernel
theorem dX12_sentence_13 : decode cX12_sentence 13 = .ok (.iconst 0, 1) := by decide +kernel
theorem dX12_sentence_14 : decode cX12_sentence 14 = .ok (.ireturn, 1) := by decide +kernel
theorem dX12_sentence_15 : decode cX12_sentence 15 = .ok (.aload_n 0, 1) := by decide +kernel
theorem dX12_sentence_16 : decode cX12_sentence 16 = .ok (.aload_n 0, 1) := by decide +kernel
theorem dX12_sentence_17 : decode cX12_sentence 17 = .ok (.getfield 204, 3) := by decide +kernel
theorem dX12_sentence_20 : decode cX12_sentence 20 = .ok (.putfield 216, 3) := by decide +kernel
theorem dX12_sentence_23 : decode cX12_sentence 23 = .ok (.aload_n 0, 1) := by decide +kernel
theorem dX12_sentence_24 : decode cX12_sentence 24 = .ok (.getfield 207, 3) := by decide +kernel
theorem dX12_sentence_27 : decode cX12_sentence 27 = .ok (.istore_n 1, 1) := by decide +kernel
theorem dX12_sentence_28 : decode cX12_sentence 28 = .ok (.aload_n 0, 1) := by decide +kernel
theorem dX12_sentence_29 : decode cX12_sentence 29 = .ok (.invokevirtual 201, 3) := by decide +kernel
theorem dX12_sentence_32 : decode cX12_sentence 32 = .ok (.aload_n 0, 1) := by decide +kernel
theorem dX12_sentence_33 : decode cX12_sentence 33 = .ok (.aload_n 0, 1) := by decide +kernel
theorem dX12_sentence_34 : decode cX12_sentence 34 = .ok (.getfield 195, 3) := by decide +kernel
theorem dX12_sentence_37 : decode cX12_sentence 37 = .ok (.invokevirtual 198, 3) := by decide +kernel
theorem dX12_sentence_40 : decode cX12_sentence 40 = .ok (.istore_n 2, 1) := by decide +kernel
theorem dX12_sentence_41 : decode cX12_sentence 41 = .ok (.iload_n 2, 1) := by decide +kernel
theorem dX12_sentence_42 : decode cX12_sentence 42 = .ok (.bipush 62, 2) := by decide +kernel
theorem dX12_sentence_44 : decode cX12_sentence 44 = .ok (.if_icmp .ne 76, 3) := by decide +kernel
theorem dX12_sentence_47 : decode cX12_sentence 47 = .ok (.aload_n 0, 1) := by decide +kernel
theorem dX12_sentence_48 : decode cX12_sentence 48 = .ok (.getfield 34, 3) := by decide +kernel
theorem dX12_sentence_51 : decode cX12_sentence 51 = .ok (.iconst 0, 1) := by decide +kernel
theorem dX12_sentence_52 : decode cX12_sentence 52 = .ok (.iaload, 1) := by decide +kernel
theorem dX12_sentence_53 : decode cX12_sentence 53 = .ok (.bipush 7, 2) := by decide +kernel
theorem dX12_sentence_55 : decode cX12_sentence 55 = .ok (.if_icmp .ge 14, 3) := by decide +kernel
theorem dX12_sentence_58 : decode cX12_sentence 58 = .ok (.aload_n 0, 1) := by decide +kernel
theorem dX12_sentence_59 : decode cX12_sentence 59 = .ok (.getfield 7, 3) := by decide +kernel
theorem dX12_sentence_62 : decode cX12_sentence 62 = .ok (.iconst 1, 1) := by decide +kernel
theorem dX12_sentence_63 : decode cX12_sentence 63 = .ok (.iaload, 1) := by decide +kernel
theorem dX12_sentence_64 : decode cX12_sentence 64 = .ok (.bipush 6, 2) := by decide +kernel
theorem dX12_sentence_66 : decode cX12_sentence 66 = .ok (.if_icmp .ne 5, 3) := by decide +kernel
theorem dX12_sentence_69 : decode cX12_sentence 69 = .ok (.iconst 0, 1) := by decide +kernel
theorem dX12_sentence_70 : decode cX12_sentence 70 = .ok (.ireturn, 1) := by decide +kernel
theorem dX12_sentence_71 : decode cX12_sentence 71 = .ok (.aload_n 0, 1) := by decide +kernel
theorem dX12_sentence_72 : decode cX12_sentence 72 = .ok (.dup, 1) := by decide +kernel
theorem dX12_sentence_73 : decode cX12_sentence 73 = .ok (.getfield 195, 3) := by decide +kernel
theorem dX12_sentence_76 : decode cX12_sentence 76 = .ok (.iconst 1, 1) := by decide +kernel
theorem dX12_sentence_77 : decode cX12_sentence 77 = .ok (.iadd, 1) := by decide +kernel
theorem dX12_sentence_78 : decode cX12_sentence 78 = .ok (.putfield 195, 3) := by decide +kernel
theorem dX12_sentence_81 : decode cX12_sentence 81 = .ok (.aload_n 0, 1) := by decide +kernel
theorem dX12_sentence_82 : decode cX12_sentence 82 = .ok (.aload_n 0, 1) := by decide +kernel
theorem dX12_sentence_83 : decode cX12_sentence 83 = .ok (.getfield 37, 3) := by decide +kernel
theorem dX12_sentence_86 : decode cX12_sentence 86 = .ok (.iload_n 1, 1) := by decide +kernel
theorem dX12_sentence_87 : decode cX12_sentence 87 = .ok (.invokevirtual 222, 3) := by decide +kernel
theorem dX12_sentence_90 : decode cX12_sentence 90 = .ok (.ifCond .ne 5, 3) := by decide +kernel
theorem dX12_sentence_93 : decode cX12_sentence 93 = .ok (.iconst 0, 1) := by decide +kernel
theorem dX12_sentence_94 : decode cX12_sentence 94 = .ok (.ireturn, 1) := by decide +kernel
theorem dX12_sentence_95 : decode cX12_sentence 95 = .ok (.aload_n 0, 1) := by decide +kernel
theorem dX12_sentence_96 : decode cX12_sentence 96 = .ok (.aload_n 0, 1) := by decide +kernel
theorem dX12_sentence_97 : decode cX12_sentence 97 = .ok (.getfield 204, 3) := by decide +kernel
theorem dX12_sentence_100 : decode cX12_sentence 100 = .ok (.putfield 219, 3) := by decide +kernel
theorem dX12_sentence_103 : decode cX12_sentence 103 = .ok (.aload_n 0, 1) := by decide +kernel
theorem dX12_sentence_104 : decode cX12_sentence 104 = .ok (.bipush 59, 2) := by decide +kernel
theorem dX12_sentence_106 : decode cX12_sentence 106 = .ok (.invokevirtual 213, 3) := by decide +kernel
theorem dX12_sentence_109 : decode cX12_sentence 109 = .ok (.ifCond .ne 5, 3) := by decide +kernel
theorem dX12_sentence_112 : decode cX12_sentence 112 = .ok (.iconst 0, 1) := by decide +kernel
theorem dX12_sentence_113 : decode cX12_sentence 113 = .ok (.ireturn, 1) := by decide +kernel
theorem dX12_sentence_114 : decode cX12_sentence 114 = .ok (.aload_n 0, 1) := by decide +kernel
theorem dX12_sentence_115 : decode cX12_sentence 115 = .ok (.invokevirtual 226, 3) := by decide +kernel
theorem dX12_sentence_118 : decode cX12_sentence 118 = .ok (.iconst 1, 1) := by decide +kernel
theorem dX12_sentence_119 : decode cX12_sentence 119 = .ok (.ireturn, 1) := by decide +kernel
theorem dX12_sentence_120 : decode cX12_sentence 120 = .ok (.iload_n 1, 1) := by decide +kernel
theorem dX12_sentence_121 : decode cX12_sentence 121 = .ok (.ifCond .ne 15, 3) := by decide +kernel
theorem dX12_sentence_124 : decode cX12_sentence 124 = .ok (.iload_n 2, 1) := by decide +kernel
theorem dX12_sentence_125 : decode cX12_sentence 125 = .ok (.bipush 61, 2) := by decide +kernel
theorem dX12_sentence_127 : decode cX12_sentence 127 = .ok (.if_icmp .eq 11, 3) := by decide +kernel
theorem dX12_sentence_130 : decode cX12_sentence 130 = .ok (.iload_n 2, 1) := by decide +kernel
theorem dX12_sentence_131 : decode cX12_sentence 131 = .ok (.bipush 59, 2) := by decide +kernel
theorem dX12_sentence_133 : decode cX12_sentence 133 = .ok (.if_icmp .eq 5, 3) := by decide +kernel
theorem dX12_sentence_136 : decode cX12_sentence 136 = .ok (.iconst 0, 1) := by decide +kernel
theorem dX12_sentence_137 : decode cX12_sentence 137 = .ok (.ireturn, 1) := by decide +kernel
theorem dX12_sentence_138 : decode cX12_sentence 138 = .ok (.aload_n 0, 1) := by decide +kernel
theorem dX12_sentence_139 : decode cX12_sentence 139 = .ok (.iconst 0, 1) := by decide +kernel
theorem dX12_sentence_140 : decode cX12_sentence 140 = .ok (.putfield 219, 3) := by decide +kernel
theorem dX12_sentence_143 : decode cX12_sentence 143 = .ok (.iload_n 2, 1) := by decide +kernel
theorem dX12_sentence_144 : decode cX12_sentence 144 = .ok (.bipush 61, 2) := by decide +kernel
theorem dX12_sentence_146 : decode cX12_sentence 146 = .ok (.if_icmp .ne 62, 3) := by decide +kernel
theorem dX12_sentence_149 : decode cX12_sentence 149 = .ok (.aload_n 0, 1) := by decide +kernel
theorem dX12_sentence_150 : decode cX12_sentence 150 = .ok (.dup, 1) := by decide +kernel
theorem dX12_sentence_151 : decode cX12_sentence 151 = .ok (.getfield 195, 3) := by decide +kernel
theorem dX12_sentence_154 : decode cX12_sentence 154 = .ok (.iconst 1, 1) := by decide +kernel
theorem dX12_sentence_155 : decode cX12_sentence 155 = .ok (.iadd, 1) := by decide +kernel
theorem dX12_sentence_156 : decode cX12_sentence 156 = .ok (.putfield 195, 3) := by decide +kernel
theorem dX12_sentence_159 : decode cX12_sentence 159 = .ok (.aload_n 0, 1) := by decide +kernel
theorem dX12_sentence_160 : decode cX12_sentence 160 = .ok (.aload_n 0, 1) := by decide +kernel
theorem dX12_sentence_161 : decode cX12_sentence 161 = .ok (.getfield 37, 3) := by decide +kernel
theorem dX12_sentence_164 : decode cX12_sentence 164 = .ok (.bipush 7, 2) := by decide +kernel
theorem dX12_sentence_166 : decode cX12_sentence 166 = .ok (.invokevirtual 222, 3) := by decide +kernel
theorem dX12_sentence_169 : decode cX12_sentence 169 = .ok (.ifCond .ne 5, 3) := by decide +kernel
theorem dX12_sentence_172 : decode cX12_sentence 172 = .ok (.iconst 0, 1) := by decide +kernel
theorem dX12_sentence_173 : decode cX12_sentence 173 = .ok (.ireturn, 1) := by decide +kernel
theorem dX12_sentence_174 : decode cX12_sentence 174 = .ok (.aload_n 0, 1) := by decide +kernel
theorem dX12_sentence_175 : decode cX12_sentence 175 = .ok (.aload_n 0, 1) := by decide +kernel
theorem dX12_sentence_176 : decode cX12_sentence 176 = .ok (.getfield 204, 3) := by decide +kernel
theorem dX12_sentence_179 : decode cX12_sentence 179 = .ok (.putfield 219, 3) := by decide +kernel
theorem dX12_sentence_182 : decode cX12_sentence 182 = .ok (.aload_n 0, 1) := by decide +kernel
theorem dX12_sentence_183 : decode cX12_sentence 183 = .ok (.invokevirtual 201, 3) := by decide +kernel
theorem dX12_sentence_186 : decode cX12_sentence 186 = .ok (.aload_n 0, 1) := by decide +kernel
theorem dX12_sentence_187 : decode cX12_sentence 187 = .ok (.getfield 207, 3) := by decide +kernel
theorem dX12_sentence_190 : decode cX12_sentence 190 = .ok (.ifCond .ne 16, 3) := by decide +kernel
theorem dX12_sentence_193 : decode cX12_sentence 193 = .ok (.aload_n 0, 1) := by decide +kernel
theorem dX12_sentence_194 : decode cX12_sentence 194 = .ok (.aload_n 0, 1) := by decide +kernel
theorem dX12_sentence_195 : decode cX12_sentence 195 = .ok (.getfield 195, 3) := by decide +kernel
theorem dX12_sentence_198 : decode cX12_sentence 198 = .ok (.invokevirtual 198, 3) := by decide +kernel
theorem dX12_sentence_201 : decode cX12_sentence 201 = .ok (.bipush 59, 2) := by decide +kernel
theorem dX12_sentence_203 : decode cX12_sentence 203 = .ok (.if_icmp .eq 5, 3) := by decide +kernel
theorem dX12_sentence_206 : decode cX12_sentence 206 = .ok (.iconst 0, 1) := by decide +kernel
theorem dX12_sentence_207 : decode cX12_sentence 207 = .ok (.ireturn, 1) := by decide +kernel
theorem dX12_sentence_208 : decode cX12_sentence 208 = .ok (.aload_n 0, 1) := by decide +kernel
theorem dX12_sentence_209 : decode cX12_sentence 209 = .ok (.iconst 0, 1) := by decide +kernel
theorem dX12_sentence_210 : decode cX12_sentence 210 = .ok (.putfield 91, 3) := by decide +kernel
theorem dX12_sentence_213 : decode cX12_sentence 213 = .ok (.aload_n 0, 1) := by decide +kernel
theorem dX12_sentence_214 : decode cX12_sentence 214 = .ok (.iconst 1, 1) := by decide +kernel
theorem dX12_sentence_215 : decode cX12_sentence 215 = .ok (.putfield 172, 3) := by decide +kernel
theorem dX12_sentence_218 : decode cX12_sentence 218 = .ok (.aload_n 0, 1) := by decide +kernel
theorem dX12_sentence_219 : decode cX12_sentence 219 = .ok (.aload_n 0, 1) := by decide +kernel
theorem dX12_sentence_220 : decode cX12_sentence 220 = .ok (.getfield 34, 3) := by decide +kernel
theorem dX12_sentence_223 : decode cX12_sentence 223 = .ok (.iconst 0, 1) := by decide +kernel
theorem dX12_sentence_224 : decode cX12_sentence 224 = .ok (.aload_n 0, 1) := by decide +kernel
theorem dX12_sentence_225 : decode cX12_sentence 225 = .ok (.getfield 216, 3) := by decide +kernel
theorem dX12_sentence_228 : decode cX12_sentence 228 = .ok (.iconst 0, 1) := by decide +kernel
theorem dX12_sentence_229 : decode cX12_sentence 229 = .ok (.invokevirtual 178, 3) := by decide +kernel
theorem dX12_sentence_232 : decode cX12_sentence 232 = .ok (.istore_n 3, 1) := by decide +kernel
theorem dX12_sentence_233 : decode cX12_sentence 233 = .ok (.aload_n 0, 1) := by decide +kernel
theorem dX12_sentence_234 : decode cX12_sentence 234 = .ok (.getfield 219, 3) := by decide +kernel
theorem dX12_sentence_237 : decode cX12_sentence 237 = .ok (.ifCond .ne 7, 3) := by decide +kernel
theorem dX12_sentence_240 : decode cX12_sentence 240 = .ok (.iload_n 3, 1) := by decide +kernel
theorem dX12_sentence_241 : decode cX12_sentence 241 = .ok (.goto 17, 3) := by decide +kernel
theorem dX12_sentence_244 : decode cX12_sentence 244 = .ok (.aload_n 0, 1) := by decide +kernel
theorem dX12_sentence_245 : decode cX12_sentence 245 = .ok (.aload_n 0, 1) := by decide +kernel
theorem dX12_sentence_246 : decode cX12_sentence 246 = .ok (.getfield 37, 3) := by decide +kernel
theorem dX12_sentence_249 : decode cX12_sentence 249 = .ok (.iconst 0, 1) := by decide +kernel
theorem dX12_sentence_250 : decode cX12_sentence 250 = .ok (.aload_n 0, 1) := by decide +kernel
theorem dX12_sentence_251 : decode cX12_sentence 251 = .ok (.getfield 219, 3) := by decide +kernel
theorem dX12_sentence_254 : decode cX12_sentence 254 = .ok (.iconst 0, 1) := by decide +kernel
theorem dX12_sentence_255 : decode cX12_sentence 255 = .ok (.invokevirtual 178, 3) := by decide +kernel
theorem dX12_sentence_258 : decode cX12_sentence 258 = .ok (.istore 4, 2) := by decide +kernel
theorem dX12_sentence_260 : decode cX12_sentence 260 = .ok (.aload_n 0, 1) := by decide +kernel
theorem dX12_sentence_261 : decode cX12_sentence 261 = .ok (.getfield 91, 3) := by decide +kernel
theorem dX12_sentence_264 : decode cX12_sentence 264 = .ok (.ifCond .eq 5, 3) := by decide +kernel
theorem dX12_sentence_267 : decode cX12_sentence 267 = .ok (.iconst 0, 1) := by decide +kernel
theorem dX12_sentence_268 : decode cX12_sentence 268 = .ok (.ireturn, 1) := by decide +kernel
theorem dX12_sentence_269 : decode cX12_sentence 269 = .ok (.aload_n 0, 1) := by decide +kernel
theorem dX12_sentence_270 : decode cX12_sentence 270 = .ok (.dup, 1) := by decide +kernel
theorem dX12_sentence_271 : decode cX12_sentence 271 = .ok (.getfield 195, 3) := by decide +kernel
theorem dX12_sentence_274 : decode cX12_sentence 274 = .ok (.iconst 1, 1) := by decide +kernel
theorem dX12_sentence_275 : decode cX12_sentence 275 = .ok (.iadd, 1) := by decide +kernel
theorem dX12_sentence_276 : decode cX12_sentence 276 = .ok (.putfield 195, 3) := by decide +kernel
theorem dX12_sentence_279 : decode cX12_sentence 279 = .ok (.aload_n 0, 1) := by decide +kernel
theorem dX12_sentence_280 : decode cX12_sentence 280 = .ok (.invokevirtual 123, 3) := by decide +kernel
theorem dX12_sentence_283 : decode cX12_sentence 283 = .ok (.aload_n 0, 1) := by decide +kernel
theorem dX12_sentence_284 : decode cX12_sentence 284 = .ok (.iload_n 3, 1) := by decide +kernel
theorem dX12_sentence_285 : decode cX12_sentence 285 = .ok (.iload 4, 2) := by decide +kernel
theorem dX12_sentence_287 : decode cX12_sentence 287 = .ok (.invokevirtual 103, 3) := by decide +kernel
theorem dX12_sentence_290 : decode cX12_sentence 290 = .ok (.pop, 1) := by decide +kernel
theorem dX12_sentence_291 : decode cX12_sentence 291 = .ok (.aload_n 0, 1) := by decide +kernel
theorem dX12_sentence_292 : decode cX12_sentence 292 = .ok (.invokevirtual 123, 3) := by decide +kernel
theorem dX12_sentence_295 : decode cX12_sentence 295 = .ok (.iconst 1, 1) := by decide +kernel
theorem dX12_sentence_296 : decode cX12_sentence 296 = .ok (.ireturn, 1) := by decide +kernel
theorem dX12_reads_0 : decode cX12_reads 0 = .ok (.iconst 0, 1) := by decide +kernel
theorem dX12_reads_1 : decode cX12_reads 1 = .ok (.istore_n 1, 1) := by decide +kernel
theorem dX12_reads_2 : decode cX12_reads 2 = .ok (.iload_n 1, 1) := by decide +kernel
theorem dX12_reads_3 : decode cX12_reads 3 = .ok (.sipush 984, 3) := by decide +kernel
theorem dX12_reads_6 : decode cX12_reads 6 = .ok (.if_icmp .ge 21, 3) := by decide +kernel
theorem dX12_reads_9 : decode cX12_reads 9 = .ok (.aload_n 0, 1) := by decide +kernel
theorem dX12_reads_10 : decode cX12_reads 10 = .ok (.getfield 16, 3) := by decide +kernel
theorem dX12_reads_13 : decode cX12_reads 13 = .ok (.iload_n 1, 1) := by decide +kernel
theorem dX12_reads_14 : decode cX12_reads 14 = .ok (.aload_n 0, 1) := by decide +kernel
theorem dX12_reads_15 : decode cX12_reads 15 = .ok (.getfield 7, 3) := by decide +kernel
theorem dX12_reads_18 : decode cX12_reads 18 = .ok (.iload_n 1, 1) := by decide +kernel
theorem dX12_reads_19 : decode cX12_reads 19 = .ok (.iaload, 1) := by decide +kernel
theorem dX12_reads_20 : decode cX12_reads 20 = .ok (.iastore, 1) := by decide +kernel
theorem dX12_reads_21 : decode cX12_reads 21 = .ok (.iinc 1 1, 3) := by decide +kernel
theorem dX12_reads_24 : decode cX12_reads 24 = .ok (.goto (-22), 3) := by decide +kernel
theorem dX12_reads_27 : decode cX12_reads 27 = .ok (.iconst 0, 1) := by decide +kernel
theorem dX12_reads_28 : decode cX12_reads 28 = .ok (.istore_n 1, 1) := by decide +kernel
theorem dX12_reads_29 : decode cX12_reads 29 = .ok (.aload_n 0, 1) := by decide +kernel
theorem dX12_reads_30 : decode cX12_reads 30 = .ok (.iconst 0, 1) := by decide +kernel
theorem dX12_reads_31 : decode cX12_reads 31 = .ok (.putfield 195, 3) := by decide +kernel
theorem dX12_reads_34 : decode cX12_reads 34 = .ok (.aload_n 0, 1) := by decide +kernel
theorem dX12_reads_35 : decode cX12_reads 35 = .ok (.invokevirtual 201, 3) := by decide +kernel
theorem dX12_reads_38 : decode cX12_reads 38 = .ok (.iconst 1, 1) := by decide +kernel
theorem dX12_reads_39 : decode cX12_reads 39 = .ok (.istore_n 2, 1) := by decide +kernel
theorem dX12_reads_40 : decode cX12_reads 40 = .ok (.iload_n 2, 1) := by decide +kernel
theorem dX12_reads_41 : decode cX12_reads 41 = .ok (.ifCond .eq 33, 3) := by decide +kernel
theorem dX12_reads_44 : decode cX12_reads 44 = .ok (.aload_n 0, 1) := by decide +kernel
theorem dX12_reads_45 : decode cX12_reads 45 = .ok (.getfield 195, 3) := by decide +kernel
theorem dX12_reads_48 : decode cX12_reads 48 = .ok (.aload_n 0, 1) := by decide +kernel
theorem dX12_reads_49 : decode cX12_reads 49 = .ok (.getfield 192, 3) := by decide +kernel
theorem dX12_reads_52 : decode cX12_reads 52 = .ok (.if_icmp .lt 7, 3) := by decide +kernel
theorem dX12_reads_55 : decode cX12_reads 55 = .ok (.iload_n 1, 1) := by decide +kernel
theorem dX12_reads_56 : decode cX12_reads 56 = .ok (.ifCond .ne 18, 3) := by decide +kernel
theorem dX12_reads_59 : decode cX12_reads 59 = .ok (.aload_n 0, 1) := by decide +kernel
theorem dX12_reads_60 : decode cX12_reads 60 = .ok (.invokevirtual 229, 3) := by decide +kernel
theorem dX12_reads_63 : decode cX12_reads 63 = .ok (.istore_n 2, 1) := by decide +kernel
theorem dX12_reads_64 : decode cX12_reads 64 = .ok (.iinc 1 1, 3) := by decide +kernel
theorem dX12_reads_67 : decode cX12_reads 67 = .ok (.aload_n 0, 1) := by decide +kernel
theorem dX12_reads_68 : decode cX12_reads 68 = .ok (.invokevirtual 201, 3) := by decide +kernel
theorem dX12_reads_71 : decode cX12_reads 71 = .ok (.goto (-31), 3) := by decide +kernel
theorem dX12_reads_74 : decode cX12_reads 74 = .ok (.iload_n 2, 1) := by decide +kernel
theorem dX12_reads_75 : decode cX12_reads 75 = .ok (.ifCond .ne 38, 3) := by decide +kernel
theorem dX12_reads_78 : decode cX12_reads 78 = .ok (.iconst 0, 1) := by decide +kernel
theorem dX12_reads_79 : decode cX12_reads 79 = .ok (.istore_n 3, 1) := by decide +kernel
theorem dX12_reads_80 : decode cX12_reads 80 = .ok (.iload_n 3, 1) := by decide +kernel
theorem dX12_reads_81 : decode cX12_reads 81 = .ok (.sipush 984, 3) := by decide +kernel
theorem dX12_reads_84 : decode cX12_reads 84 = .ok (.if_icmp .ge 21, 3) := by decide +kernel
theorem dX12_reads_87 : decode cX12_reads 87 = .ok (.aload_n 0, 1) := by decide +kernel
theorem dX12_reads_88 : decode cX12_reads 88 = .ok (.getfield 7, 3) := by decide +kernel
theorem dX12_reads_91 : decode cX12_reads 91 = .ok (.iload_n 3, 1) := by decide +kernel
theorem dX12_reads_92 : decode cX12_reads 92 = .ok (.aload_n 0, 1) := by decide +kernel
theorem dX12_reads_93 : decode cX12_reads 93 = .ok (.getfield 16, 3) := by decide +kernel
theorem dX12_reads_96 : decode cX12_reads 96 = .ok (.iload_n 3, 1) := by decide +kernel
theorem dX12_reads_97 : decode cX12_reads 97 = .ok (.iaload, 1) := by decide +kernel
theorem dX12_reads_98 : decode cX12_reads 98 = .ok (.iastore, 1) := by decide +kernel
theorem dX12_reads_99 : decode cX12_reads 99 = .ok (.iinc 3 1, 3) := by decide +kernel
theorem dX12_reads_102 : decode cX12_reads 102 = .ok (.goto (-22), 3) := by decide +kernel
theorem dX12_reads_105 : decode cX12_reads 105 = .ok (.bipush (-10), 2) := by decide +kernel
theorem dX12_reads_107 : decode cX12_reads 107 = .ok (.aload_n 0, 1) := by decide +kernel
theorem dX12_reads_108 : decode cX12_reads 108 = .ok (.getfield 195, 3) := by decide +kernel
theorem dX12_reads_111 : decode cX12_reads 111 = .ok (.isub, 1) := by decide +kernel
theorem dX12_reads_112 : decode cX12_reads 112 = .ok (.ireturn, 1) := by decide +kernel
theorem dX12_reads_113 : decode cX12_reads 113 = .ok (.iconst 0, 1) := by decide +kernel
theorem dX12_reads_114 : decode cX12_reads 114 = .ok (.istore_n 3, 1) := by decide +kernel
theorem dX12_reads_115 : decode cX12_reads 115 = .ok (.iload_n 3, 1) := by decide +kernel
theorem dX12_reads_116 : decode cX12_reads 116 = .ok (.sipush 984, 3) := by decide +kernel
theorem dX12_reads_119 : decode cX12_reads 119 = .ok (.if_icmp .ge 37, 3) := by decide +kernel
theorem dX12_reads_122 : decode cX12_reads 122 = .ok (.aload_n 0, 1) := by decide +kernel
theorem dX12_reads_123 : decode cX12_reads 123 = .ok (.getfield 7, 3) := by decide +kernel
theorem dX12_reads_126 : decode cX12_reads 126 = .ok (.iload_n 3, 1) := by decide +kernel
theorem dX12_reads_127 : decode cX12_reads 127 = .ok (.iaload, 1) := by decide +kernel
theorem dX12_reads_128 : decode cX12_reads 128 = .ok (.istore 4, 2) := by decide +kernel
theorem dX12_reads_130 : decode cX12_reads 130 = .ok (.aload_n 0, 1) := by decide +kernel
theorem dX12_reads_131 : decode cX12_reads 131 = .ok (.getfield 7, 3) := by decide +kernel
theorem dX12_reads_134 : decode cX12_reads 134 = .ok (.iload_n 3, 1) := by decide +kernel
theorem dX12_reads_135 : decode cX12_reads 135 = .ok (.aload_n 0, 1) := by decide +kernel
theorem dX12_reads_136 : decode cX12_reads 136 = .ok (.getfield 16, 3) := by decide +kernel
theorem dX12_reads_139 : decode cX12_reads 139 = .ok (.iload_n 3, 1) := by decide +kernel
theorem dX12_reads_140 : decode cX12_reads 140 = .ok (.iaload, 1) := by decide +kernel
theorem dX12_reads_141 : decode cX12_reads 141 = .ok (.iastore, 1) := by decide +kernel
theorem dX12_reads_142 : decode cX12_reads 142 = .ok (.aload_n 0, 1) := by decide +kernel
theorem dX12_reads_143 : decode cX12_reads 143 = .ok (.getfield 16, 3) := by decide +kernel
theorem dX12_reads_146 : decode cX12_reads 146 = .ok (.iload_n 3, 1) := by decide +kernel
theorem dX12_reads_147 : decode cX12_reads 147 = .ok (.iload 4, 2) := by decide +kernel
theorem dX12_reads_149 : decode cX12_reads 149 = .ok (.iastore, 1) := by decide +kernel
theorem dX12_reads_150 : decode cX12_reads 150 = .ok (.iinc 3 1, 3) := by decide +kernel
theorem dX12_reads_153 : decode cX12_reads 153 = .ok (.goto (-38), 3) := by decide +kernel
theorem dX12_reads_156 : decode cX12_reads 156 = .ok (.aload_n 0, 1) := by decide +kernel
theorem dX12_reads_157 : decode cX12_reads 157 = .ok (.invokevirtual 116, 3) := by decide +kernel
theorem dX12_reads_160 : decode cX12_reads 160 = .ok (.iconst 0, 1) := by decide +kernel
theorem dX12_reads_161 : decode cX12_reads 161 = .ok (.istore_n 3, 1) := by decide +kernel
theorem dX12_reads_162 : decode cX12_reads 162 = .ok (.iload_n 3, 1) := by decide +kernel
theorem dX12_reads_163 : decode cX12_reads 163 = .ok (.sipush 984, 3) := by decide +kernel
theorem dX12_reads_166 : decode cX12_reads 166 = .ok (.if_icmp .ge 21, 3) := by decide +kernel
theorem dX12_reads_169 : decode cX12_reads 169 = .ok (.aload_n 0, 1) := by decide +kernel
theorem dX12_reads_170 : decode cX12_reads 170 = .ok (.getfield 7, 3) := by decide +kernel
theorem dX12_reads_173 : decode cX12_reads 173 = .ok (.iload_n 3, 1) := by decide +kernel
theorem dX12_reads_174 : decode cX12_reads 174 = .ok (.aload_n 0, 1) := by decide +kernel
theorem dX12_reads_175 : decode cX12_reads 175 = .ok (.getfield 16, 3) := by decide +kernel
theorem dX12_reads_178 : decode cX12_reads 178 = .ok (.iload_n 3, 1) := by decide +kernel
theorem dX12_reads_179 : decode cX12_reads 179 = .ok (.iaload, 1) := by decide +kernel
theorem dX12_reads_180 : decode cX12_reads 180 = .ok (.iastore, 1) := by decide +kernel
theorem dX12_reads_181 : decode cX12_reads 181 = .ok (.iinc 3 1, 3) := by decide +kernel
theorem dX12_reads_184 : decode cX12_reads 184 = .ok (.goto (-22), 3) := by decide +kernel
theorem dX12_reads_187 : decode cX12_reads 187 = .ok (.iload_n 1, 1) := by decide +kernel
theorem dX12_reads_188 : decode cX12_reads 188 = .ok (.ireturn, 1) := by decide +kernel
theorem dX12_letterOf_0 : decode cX12_letterOf 0 = .ok (.iload_n 0, 1) := by decide +kernel
theorem dX12_letterOf_1 : decode cX12_letterOf 1 = .ok (.iconst 4, 1) := by decide +kernel
theorem dX12_letterOf_2 : decode cX12_letterOf 2 = .ok (.if_icmp .ge 10, 3) := by decide +kernel
theorem dX12_letterOf_5 : decode cX12_letterOf 5 = .ok (.bipush 97, 2) := by decide +kernel
theorem dX12_letterOf_7 : decode cX12_letterOf 7 = .ok (.iload_n 0, 1) := by decide +kernel
theorem dX12_letterOf_8 : decode cX12_letterOf 8 = .ok (.iadd, 1) := by decide +kernel
theorem dX12_letterOf_9 : decode cX12_letterOf 9 = .ok (.goto 9, 3) := by decide +kernel
theorem dX12_letterOf_12 : decode cX12_letterOf 12 = .ok (.bipush 102, 2) := by decide +kernel
theorem dX12_letterOf_14 : decode cX12_letterOf 14 = .ok (.iload_n 0, 1) := by decide +kernel
theorem dX12_letterOf_15 : decode cX12_letterOf 15 = .ok (.iadd, 1) := by decide +kernel
theorem dX12_letterOf_16 : decode cX12_letterOf 16 = .ok (.iconst 4, 1) := by decide +kernel
theorem dX12_letterOf_17 : decode cX12_letterOf 17 = .ok (.isub, 1) := by decide +kernel
theorem dX12_letterOf_18 : decode cX12_letterOf 18 = .ok (.ireturn, 1) := by decide +kernel
theorem dX12_writing_0 : decode cX12_writing 0 = .ok (.aload_n 0, 1) := by decide +kernel
theorem dX12_writing_1 : decode cX12_writing 1 = .ok (.iload_n 1, 1) := by decide +kernel
theorem dX12_writing_2 : decode cX12_writing 2 = .ok (.invokevirtual 109, 3) := by decide +kernel
theorem dX12_writing_5 : decode cX12_writing 5 = .ok (.ifCond .eq 8, 3) := by decide +kernel
theorem dX12_writing_8 : decode cX12_writing 8 = .ok (.iload_n 2, 1) := by decide +kernel
theorem dX12_writing_9 : decode cX12_writing 9 = .ok (.iconst (-1), 1) := by decide +kernel
theorem dX12_writing_10 : decode cX12_writing 10 = .ok (.if_icmp .ge 13, 3) := by decide +kernel
theorem dX12_writing_13 : decode cX12_writing 13 = .ok (.aload_n 0, 1) := by decide +kernel
theorem dX12_writing_14 : decode cX12_writing 14 = .ok (.bipush (-2), 2) := by decide +kernel
theorem dX12_writing_16 : decode cX12_writing 16 = .ok (.invokevirtual 113, 3) := by decide +kernel
theorem dX12_writing_19 : decode cX12_writing 19 = .ok (.pop, 1) := by decide +kernel
theorem dX12_writing_20 : decode cX12_writing 20 = .ok (.bipush (-10), 2) := by decide +kernel
theorem dX12_writing_22 : decode cX12_writing 22 = .ok (.ireturn, 1) := by decide +kernel
theorem dX12_writing_23 : decode cX12_writing 23 = .ok (.iconst 0, 1) := by decide +kernel
theorem dX12_writing_24 : decode cX12_writing 24 = .ok (.istore_n 3, 1) := by decide +kernel
theorem dX12_writing_25 : decode cX12_writing 25 = .ok (.iconst 1, 1) := by decide +kernel
theorem dX12_writing_26 : decode cX12_writing 26 = .ok (.istore 4, 2) := by decide +kernel
theorem dX12_writing_28 : decode cX12_writing 28 = .ok (.aload_n 0, 1) := by decide +kernel
theorem dX12_writing_29 : decode cX12_writing 29 = .ok (.getfield 76, 3) := by decide +kernel
theorem dX12_writing_32 : decode cX12_writing 32 = .ok (.iconst 0, 1) := by decide +kernel
theorem dX12_writing_33 : decode cX12_writing 33 = .ok (.iload_n 1, 1) := by decide +kernel
theorem dX12_writing_34 : decode cX12_writing 34 = .ok (.iastore, 1) := by decide +kernel
theorem dX12_writing_35 : decode cX12_writing 35 = .ok (.iload 4, 2) := by decide +kernel
theorem dX12_writing_37 : decode cX12_writing 37 = .ok (.ifCond .le 166, 3) := by decide +kernel
theorem dX12_writing_40 : decode cX12_writing 40 = .ok (.iload_n 3, 1) := by decide +kernel
theorem dX12_writing_41 : decode cX12_writing 41 = .ok (.sipush 300, 3) := by decide +kernel
theorem dX12_writing_44 : decode cX12_writing 44 = .ok (.if_icmp .ge 159, 3) := by decide +kernel
theorem dX12_writing_47 : decode cX12_writing 47 = .ok (.iinc 4 (-1), 3) := by decide +kernel
theorem dX12_writing_50 : decode cX12_writing 50 = .ok (.aload_n 0, 1) := by decide +kernel
theorem dX12_writing_51 : decode cX12_writing 51 = .ok (.getfield 76, 3) := by decide +kernel
theorem dX12_writing_54 : decode cX12_writing 54 = .ok (.iload 4, 2) := by decide +kernel
theorem dX12_writing_56 : decode cX12_writing 56 = .ok (.iaload, 1) := by decide +kernel
theorem dX12_writing_57 : decode cX12_writing 57 = .ok (.istore 5, 2) := by decide +kernel
theorem dX12_writing_59 : decode cX12_writing 59 = .ok (.iload 5, 2) := by decide +kernel
theorem dX12_writing_61 : decode cX12_writing 61 = .ok (.ifCond .ge 9, 3) := by decide +kernel
theorem dX12_writing_64 : decode cX12_writing 64 = .ok (.iload 5, 2) := by decide +kernel
theorem dX12_writing_66 : decode cX12_writing 66 = .ok (.ineg, 1) := by decide +kernel
theorem dX12_writing_67 : decode cX12_writing 67 = .ok (.goto 15, 3) := by decide +kernel
theorem dX12_writing_70 : decode cX12_writing 70 = .ok (.aload_n 0, 1) := by decide +kernel
theorem dX12_writing_71 : decode cX12_writing 71 = .ok (.getfield 7, 3) := by decide +kernel
theorem dX12_writing_74 : decode cX12_writing 74 = .ok (.iconst 2, 1) := by decide +kernel
theorem dX12_writing_75 : decode cX12_writing 75 = .ok (.iload 5, 2) := by decide +kernel
theorem dX12_writing_77 : decode cX12_writing 77 = .ok (.iadd, 1) := by decide +kernel
theorem dX12_writing_78 : decode cX12_writing 78 = .ok (.iaload, 1) := by decide +kernel
theorem dX12_writing_79 : decode cX12_writing 79 = .ok (.invokestatic 233, 3) := by decide +kernel
theorem dX12_writing_82 : decode cX12_writing 82 = .ok (.istore 6, 2) := by decide +kernel
theorem dX12_writing_84 : decode cX12_writing 84 = .ok (.iload_n 3, 1) := by decide +kernel
theorem dX12_writing_85 : decode cX12_writing 85 = .ok (.iload_n 2, 1) := by decide +kernel
theorem dX12_writing_86 : decode cX12_writing 86 = .ok (.if_icmp .ne 6, 3) := by decide +kernel
theorem dX12_writing_89 : decode cX12_writing 89 = .ok (.iload 6, 2) := by decide +kernel
theorem dX12_writing_91 : decode cX12_writing 91 = .ok (.ireturn, 1) := by decide +kernel
theorem dX12_writing_92 : decode cX12_writing 92 = .ok (.iinc 3 1, 3) := by decide +kernel
theorem dX12_writing_95 : decode cX12_writing 95 = .ok (.iload 5, 2) := by decide +kernel
theorem dX12_writing_97 : decode cX12_writing 97 = .ok (.ifCond .lt 103, 3) := by decide +kernel
theorem dX12_writing_100 : decode cX12_writing 100 = .ok (.aload_n 0, 1) := by decide +kernel
theorem dX12_writing_101 : decode cX12_writing 101 = .ok (.getfield 7, 3) := by decide +kernel
theorem dX12_writing_104 : decode cX12_writing 104 = .ok (.bipush 52, 2) := by decide +kernel
theorem dX12_writing_106 : decode cX12_writing 106 = .ok (.iload 5, 2) := by decide +kernel
theorem dX12_writing_108 : decode cX12_writing 108 = .ok (.iadd, 1) := by decide +kernel
theorem dX12_writing_109 : decode cX12_writing 109 = .ok (.iaload, 1) := by decide +kernel
theorem dX12_writing_110 : decode cX12_writing 110 = .ok (.ifCond .lt 90, 3) := by decide +kernel
theorem dX12_writing_113 : decode cX12_writing 113 = .ok (.aload_n 0, 1) := by decide +kernel
theorem dX12_writing_114 : decode cX12_writing 114 = .ok (.getfield 76, 3) := by decide +kernel
theorem dX12_writing_117 : decode cX12_writing 117 = .ok (.iload 4, 2) := by decide +kernel
theorem dX12_writing_119 : decode cX12_writing 119 = .ok (.bipush (-41), 2) := by decide +kernel
theorem dX12_writing_121 : decode cX12_writing 121 = .ok (.iastore, 1) := by decide +kernel
theorem dX12_writing_122 : decode cX12_writing 122 = .ok (.iinc 4 1, 3) := by decide +kernel
theorem dX12_writing_125 : decode cX12_writing 125 = .ok (.aload_n 0, 1) := by decide +kernel
theorem dX12_writing_126 : decode cX12_writing 126 = .ok (.getfield 7, 3) := by decide +kernel
theorem dX12_writing_129 : decode cX12_writing 129 = .ok (.bipush 102, 2) := by decide +kernel
theorem dX12_writing_131 : decode cX12_writing 131 = .ok (.iload 5, 2) := by decide +kernel
theorem dX12_writing_133 : decode cX12_writing 133 = .ok (.iadd, 1) := by decide +kernel
theorem dX12_writing_134 : decode cX12_writing 134 = .ok (.iaload, 1) := by decide +kernel
theorem dX12_writing_135 : decode cX12_writing 135 = .ok (.ifCond .lt 34, 3) := by decide +kernel
theorem dX12_writing_138 : decode cX12_writing 138 = .ok (.aload_n 0, 1) := by decide +kernel
theorem dX12_writing_139 : decode cX12_writing 139 = .ok (.getfield 76, 3) := by decide +kernel
theorem dX12_writing_142 : decode cX12_writing 142 = .ok (.iload 4, 2) := by decide +kernel
theorem dX12_writing_144 : decode cX12_writing 144 = .ok (.aload_n 0, 1) := by decide +kernel
theorem dX12_writing_145 : decode cX12_writing 145 = .ok (.getfield 7, 3) := by decide +kernel
theorem dX12_writing_148 : decode cX12_writing 148 = .ok (.bipush 102, 2) := by decide +kernel
theorem dX12_writing_150 : decode cX12_writing 150 = .ok (.iload 5, 2) := by decide +kernel
theorem dX12_writing_152 : decode cX12_writing 152 = .ok (.iadd, 1) := by decide +kernel
theorem dX12_writing_153 : decode cX12_writing 153 = .ok (.iaload, 1) := by decide +kernel
theorem dX12_writing_154 : decode cX12_writing 154 = .ok (.iastore, 1) := by decide +kernel
theorem dX12_writing_155 : decode cX12_writing 155 = .ok (.aload_n 0, 1) := by decide +kernel
theorem dX12_writing_156 : decode cX12_writing 156 = .ok (.getfield 76, 3) := by decide +kernel
theorem dX12_writing_159 : decode cX12_writing 159 = .ok (.iload 4, 2) := by decide +kernel
theorem dX12_writing_161 : decode cX12_writing 161 = .ok (.iconst 1, 1) := by decide +kernel
theorem dX12_writing_162 : decode cX12_writing 162 = .ok (.iadd, 1) := by decide +kernel
theorem dX12_writing_163 : decode cX12_writing 163 = .ok (.bipush (-44), 2) := by decide +kernel
theorem dX12_writing_165 : decode cX12_writing 165 = .ok (.iastore, 1) := by decide +kernel
theorem dX12_writing_166 : decode cX12_writing 166 = .ok (.iinc 4 2, 3) := by decide +kernel
theorem dX12_writing_169 : decode cX12_writing 169 = .ok (.aload_n 0, 1) := by decide +kernel
theorem dX12_writing_170 : decode cX12_writing 170 = .ok (.getfield 76, 3) := by decide +kernel
theorem dX12_writing_173 : decode cX12_writing 173 = .ok (.iload 4, 2) := by decide +kernel
theorem dX12_writing_175 : decode cX12_writing 175 = .ok (.aload_n 0, 1) := by decide +kernel
theorem dX12_writing_176 : decode cX12_writing 176 = .ok (.getfield 7, 3) := by decide +kernel
theorem dX12_writing_179 : decode cX12_writing 179 = .ok (.bipush 52, 2) := by decide +kernel
theorem dX12_writing_181 : decode cX12_writing 181 = .ok (.iload 5, 2) := by decide +kernel
theorem dX12_writing_183 : decode cX12_writing 183 = .ok (.iadd, 1) := by decide +kernel
theorem dX12_writing_184 : decode cX12_writing 184 = .ok (.iaload, 1) := by decide +kernel
theorem dX12_writing_185 : decode cX12_writing 185 = .ok (.iastore, 1) := by decide +kernel
theorem dX12_writing_186 : decode cX12_writing 186 = .ok (.aload_n 0, 1) := by decide +kernel
theorem dX12_writing_187 : decode cX12_writing 187 = .ok (.getfield 76, 3) := by decide +kernel
theorem dX12_writing_190 : decode cX12_writing 190 = .ok (.iload 4, 2) := by decide +kernel
theorem dX12_writing_192 : decode cX12_writing 192 = .ok (.iconst 1, 1) := by decide +kernel
theorem dX12_writing_193 : decode cX12_writing 193 = .ok (.iadd, 1) := by decide +kernel
theorem dX12_writing_194 : decode cX12_writing 194 = .ok (.bipush (-40), 2) := by decide +kernel
theorem dX12_writing_196 : decode cX12_writing 196 = .ok (.iastore, 1) := by decide +kernel
theorem dX12_writing_197 : decode cX12_writing 197 = .ok (.iinc 4 2, 3) := by decide +kernel
theorem dX12_writing_200 : decode cX12_writing 200 = .ok (.goto (-165), 3) := by decide +kernel
theorem dX12_writing_203 : decode cX12_writing 203 = .ok (.iload_n 2, 1) := by decide +kernel
theorem dX12_writing_204 : decode cX12_writing 204 = .ok (.iconst (-1), 1) := by decide +kernel
theorem dX12_writing_205 : decode cX12_writing 205 = .ok (.if_icmp .ne 7, 3) := by decide +kernel
theorem dX12_writing_208 : decode cX12_writing 208 = .ok (.iload_n 3, 1) := by decide +kernel
theorem dX12_writing_209 : decode cX12_writing 209 = .ok (.goto 5, 3) := by decide +kernel
theorem dX12_writing_212 : decode cX12_writing 212 = .ok (.bipush (-5), 2) := by decide +kernel
theorem dX12_writing_214 : decode cX12_writing 214 = .ok (.ireturn, 1) := by decide +kernel
theorem dX12_back_0 : decode cX12_back 0 = .ok (.aload_n 0, 1) := by decide +kernel
theorem dX12_back_1 : decode cX12_back 1 = .ok (.getfield 83, 3) := by decide +kernel
theorem dX12_back_4 : decode cX12_back 4 = .ok (.ifCond .ne 10, 3) := by decide +kernel
theorem dX12_back_7 : decode cX12_back 7 = .ok (.aload_n 0, 1) := by decide +kernel
theorem dX12_back_8 : decode cX12_back 8 = .ok (.bipush (-3), 2) := by decide +kernel
theorem dX12_back_10 : decode cX12_back 10 = .ok (.invokevirtual 113, 3) := by decide +kernel
theorem dX12_back_13 : decode cX12_back 13 = .ok (.ireturn, 1) := by decide +kernel
theorem dX12_back_14 : decode cX12_back 14 = .ok (.aload_n 0, 1) := by decide +kernel
theorem dX12_back_15 : decode cX12_back 15 = .ok (.dup, 1) := by decide +kernel
theorem dX12_back_16 : decode cX12_back 16 = .ok (.getfield 83, 3) := by decide +kernel
theorem dX12_back_19 : decode cX12_back 19 = .ok (.iconst 1, 1) := by decide +kernel
theorem dX12_back_20 : decode cX12_back 20 = .ok (.isub, 1) := by decide +kernel
theorem dX12_back_21 : decode cX12_back 21 = .ok (.putfield 83, 3) := by decide +kernel
theorem dX12_back_24 : decode cX12_back 24 = .ok (.iconst 0, 1) := by decide +kernel
theorem dX12_back_25 : decode cX12_back 25 = .ok (.istore_n 1, 1) := by decide +kernel
theorem dX12_back_26 : decode cX12_back 26 = .ok (.iload_n 1, 1) := by decide +kernel
theorem dX12_back_27 : decode cX12_back 27 = .ok (.sipush 984, 3) := by decide +kernel
theorem dX12_back_30 : decode cX12_back 30 = .ok (.if_icmp .ge 30, 3) := by decide +kernel
theorem dX12_back_33 : decode cX12_back 33 = .ok (.aload_n 0, 1) := by decide +kernel
theorem dX12_back_34 : decode cX12_back 34 = .ok (.getfield 7, 3) := by decide +kernel
theorem dX12_back_37 : decode cX12_back 37 = .ok (.iload_n 1, 1) := by decide +kernel
theorem dX12_back_38 : decode cX12_back 38 = .ok (.aload_n 0, 1) := by decide +kernel
theorem dX12_back_39 : decode cX12_back 39 = .ok (.getfield 13, 3) := by decide +kernel
theorem dX12_back_42 : decode cX12_back 42 = .ok (.sipush 984, 3) := by decide +kernel
theorem dX12_back_45 : decode cX12_back 45 = .ok (.aload_n 0, 1) := by decide +kernel
theorem dX12_back_46 : decode cX12_back 46 = .ok (.getfield 83, 3) := by decide +kernel
theorem dX12_back_49 : decode cX12_back 49 = .ok (.imul, 1) := by decide +kernel
theorem dX12_back_50 : decode cX12_back 50 = .ok (.iload_n 1, 1) := by decide +kernel
theorem dX12_back_51 : decode cX12_back 51 = .ok (.iadd, 1) := by decide +kernel
theorem dX12_back_52 : decode cX12_back 52 = .ok (.iaload, 1) := by decide +kernel
theorem dX12_back_53 : decode cX12_back 53 = .ok (.iastore, 1) := by decide +kernel
theorem dX12_back_54 : decode cX12_back 54 = .ok (.iinc 1 1, 3) := by decide +kernel
theorem dX12_back_57 : decode cX12_back 57 = .ok (.goto (-31), 3) := by decide +kernel
theorem dX12_back_60 : decode cX12_back 60 = .ok (.aload_n 0, 1) := by decide +kernel
theorem dX12_back_61 : decode cX12_back 61 = .ok (.getfield 83, 3) := by decide +kernel
theorem dX12_back_64 : decode cX12_back 64 = .ok (.ireturn, 1) := by decide +kernel
theorem dX12_toldOf_0 : decode cX12_toldOf 0 = .ok (.iload_n 1, 1) := by decide +kernel
theorem dX12_toldOf_1 : decode cX12_toldOf 1 = .ok (.tableswitch 82 0 8 #[51, 51, 51, 58, 63, 70, 82, 82, 77], 51) := by decide +kernel
theorem dX12_toldOf_52 : decode cX12_toldOf 52 = .ok (.aload_n 0, 1) := by decide +kernel
theorem dX12_toldOf_53 : decode cX12_toldOf 53 = .ok (.getfield 28, 3) := by decide +kernel
theorem dX12_toldOf_56 : decode cX12_toldOf 56 = .ok (.iload_n 1, 1) := by decide +kernel
theorem dX12_toldOf_57 : decode cX12_toldOf 57 = .ok (.iaload, 1) := by decide +kernel
theorem dX12_toldOf_58 : decode cX12_toldOf 58 = .ok (.ireturn, 1) := by decide +kernel
theorem dX12_toldOf_59 : decode cX12_toldOf 59 = .ok (.aload_n 0, 1) := by decide +kernel
theorem dX12_toldOf_60 : decode cX12_toldOf 60 = .ok (.getfield 192, 3) := by decide +kernel
theorem dX12_toldOf_63 : decode cX12_toldOf 63 = .ok (.ireturn, 1) := by decide +kernel
theorem dX12_toldOf_64 : decode cX12_toldOf 64 = .ok (.aload_n 0, 1) := by decide +kernel
theorem dX12_toldOf_65 : decode cX12_toldOf 65 = .ok (.getfield 7, 3) := by decide +kernel
theorem dX12_toldOf_68 : decode cX12_toldOf 68 = .ok (.iconst 0, 1) := by decide +kernel
theorem dX12_toldOf_69 : decode cX12_toldOf 69 = .ok (.iaload, 1) := by decide +kernel
theorem dX12_toldOf_70 : decode cX12_toldOf 70 = .ok (.ireturn, 1) := by decide +kernel
theorem dX12_toldOf_71 : decode cX12_toldOf 71 = .ok (.aload_n 0, 1) := by decide +kernel
theorem dX12_toldOf_72 : decode cX12_toldOf 72 = .ok (.getfield 7, 3) := by decide +kernel
theorem dX12_toldOf_75 : decode cX12_toldOf 75 = .ok (.iconst 1, 1) := by decide +kernel
theorem dX12_toldOf_76 : decode cX12_toldOf 76 = .ok (.iaload, 1) := by decide +kernel
theorem dX12_toldOf_77 : decode cX12_toldOf 77 = .ok (.ireturn, 1) := by decide +kernel
theorem dX12_toldOf_78 : decode cX12_toldOf 78 = .ok (.aload_n 0, 1) := by decide +kernel
theorem dX12_toldOf_79 : decode cX12_toldOf 79 = .ok (.getfield 83, 3) := by decide +kernel
theorem dX12_toldOf_82 : decode cX12_toldOf 82 = .ok (.ireturn, 1) := by decide +kernel
theorem dX12_toldOf_83 : decode cX12_toldOf 83 = .ok (.aload_n 0, 1) := by decide +kernel
theorem dX12_toldOf_84 : decode cX12_toldOf 84 = .ok (.getfield 19, 3) := by decide +kernel
theorem dX12_toldOf_87 : decode cX12_toldOf 87 = .ok (.iload_n 1, 1) := by decide +kernel
theorem dX12_toldOf_88 : decode cX12_toldOf 88 = .ok (.bipush 6, 2) := by decide +kernel
theorem dX12_toldOf_90 : decode cX12_toldOf 90 = .ok (.isub, 1) := by decide +kernel
theorem dX12_toldOf_91 : decode cX12_toldOf 91 = .ok (.iaload, 1) := by decide +kernel
theorem dX12_toldOf_92 : decode cX12_toldOf 92 = .ok (.ireturn, 1) := by decide +kernel
theorem dX12_told_0 : decode cX12_told 0 = .ok (.iload_n 1, 1) := by decide +kernel
theorem dX12_told_1 : decode cX12_told 1 = .ok (.iconst 0, 1) := by decide +kernel
theorem dX12_told_2 : decode cX12_told 2 = .ok (.bipush 8, 2) := by decide +kernel
theorem dX12_told_4 : decode cX12_told 4 = .ok (.invokestatic 79, 3) := by decide +kernel
theorem dX12_told_7 : decode cX12_told 7 = .ok (.ifCond .eq 11, 3) := by decide +kernel
theorem dX12_told_10 : decode cX12_told 10 = .ok (.aload_n 0, 1) := by decide +kernel
theorem dX12_told_11 : decode cX12_told 11 = .ok (.iload_n 1, 1) := by decide +kernel
theorem dX12_told_12 : decode cX12_told 12 = .ok (.invokevirtual 236, 3) := by decide +kernel
theorem dX12_told_15 : decode cX12_told 15 = .ok (.goto 9, 3) := by decide +kernel
theorem dX12_told_18 : decode cX12_told 18 = .ok (.aload_n 0, 1) := by decide +kernel
theorem dX12_told_19 : decode cX12_told 19 = .ok (.bipush (-2), 2) := by decide +kernel
theorem dX12_told_21 : decode cX12_told 21 = .ok (.invokevirtual 113, 3) := by decide +kernel
theorem dX12_told_24 : decode cX12_told 24 = .ok (.ireturn, 1) := by decide +kernel
theorem dX12_digest_0 : decode cX12_digest 0 = .ok (.ldc2_w 239, 3) := by decide +kernel
theorem dX12_digest_3 : decode cX12_digest 3 = .ok (.lstore_n 1, 1) := by decide +kernel
theorem dX12_digest_4 : decode cX12_digest 4 = .ok (.iconst 0, 1) := by decide +kernel
theorem dX12_digest_5 : decode cX12_digest 5 = .ok (.istore_n 3, 1) := by decide +kernel
theorem dX12_digest_6 : decode cX12_digest 6 = .ok (.iload_n 3, 1) := by decide +kernel
theorem dX12_digest_7 : decode cX12_digest 7 = .ok (.bipush 9, 2) := by decide +kernel
theorem dX12_digest_9 : decode cX12_digest 9 = .ok (.if_icmp .ge 22, 3) := by decide +kernel
theorem dX12_digest_12 : decode cX12_digest 12 = .ok (.ldc2_w 241, 3) := by decide +kernel
theorem dX12_digest_15 : decode cX12_digest 15 = .ok (.lload_n 1, 1) := by decide +kernel
theorem dX12_digest_16 : decode cX12_digest 16 = .ok (.lmul, 1) := by decide +kernel
theorem dX12_digest_17 : decode cX12_digest 17 = .ok (.aload_n 0, 1) := by decide +kernel
theorem dX12_digest_18 : decode cX12_digest 18 = .ok (.iload_n 3, 1) := by decide +kernel
theorem dX12_digest_19 : decode cX12_digest 19 = .ok (.invokevirtual 236, 3) := by decide +kernel
theorem dX12_digest_22 : decode cX12_digest 22 = .ok (.i2l, 1) := by decide +kernel
theorem dX12_digest_23 : decode cX12_digest 23 = .ok (.ladd, 1) := by decide +kernel
theorem dX12_digest_24 : decode cX12_digest 24 = .ok (.lstore_n 1, 1) := by decide +kernel
theorem dX12_digest_25 : decode cX12_digest 25 = .ok (.iinc 3 1, 3) := by decide +kernel
theorem dX12_digest_28 : decode cX12_digest 28 = .ok (.goto (-22), 3) := by decide +kernel
theorem dX12_digest_31 : decode cX12_digest 31 = .ok (.iconst 0, 1) := by decide +kernel
theorem dX12_digest_32 : decode cX12_digest 32 = .ok (.istore_n 3, 1) := by decide +kernel
theorem dX12_digest_33 : decode cX12_digest 33 = .ok (.iload_n 3, 1) := by decide +kernel
theorem dX12_digest_34 : decode cX12_digest 34 = .ok (.aload_n 0, 1) := by decide +kernel
theorem dX12_digest_35 : decode cX12_digest 35 = .ok (.getfield 7, 3) := by decide +kernel
theorem dX12_digest_38 : decode cX12_digest 38 = .ok (.iconst 0, 1) := by decide +kernel
theorem dX12_digest_39 : decode cX12_digest 39 = .ok (.iaload, 1) := by decide +kernel
theorem dX12_digest_40 : decode cX12_digest 40 = .ok (.if_icmp .ge 46, 3) := by decide +kernel
theorem dX12_digest_43 : decode cX12_digest 43 = .ok (.iconst 0, 1) := by decide +kernel
theorem dX12_digest_44 : decode cX12_digest 44 = .ok (.istore 4, 2) := by decide +kernel
theorem dX12_digest_46 : decode cX12_digest 46 = .ok (.iload 4, 2) := by decide +kernel
theorem dX12_digest_48 : decode cX12_digest 48 = .ok (.iconst 5, 1) := by decide +kernel
theorem dX12_digest_49 : decode cX12_digest 49 = .ok (.if_icmp .ge 31, 3) := by decide +kernel
theorem dX12_digest_52 : decode cX12_digest 52 = .ok (.ldc2_w 241, 3) := by decide +kernel
theorem dX12_digest_55 : decode cX12_digest 55 = .ok (.lload_n 1, 1) := by decide +kernel
theorem dX12_digest_56 : decode cX12_digest 56 = .ok (.lmul, 1) := by decide +kernel
theorem dX12_digest_57 : decode cX12_digest 57 = .ok (.aload_n 0, 1) := by decide +kernel
theorem dX12_digest_58 : decode cX12_digest 58 = .ok (.getfield 7, 3) := by decide +kernel
theorem dX12_digest_61 : decode cX12_digest 61 = .ok (.iconst 2, 1) := by decide +kernel
theorem dX12_digest_62 : decode cX12_digest 62 = .ok (.bipush 50, 2) := by decide +kernel
theorem dX12_digest_64 : decode cX12_digest 64 = .ok (.iload 4, 2) := by decide +kernel
theorem dX12_digest_66 : decode cX12_digest 66 = .ok (.imul, 1) := by decide +kernel
theorem dX12_digest_67 : decode cX12_digest 67 = .ok (.iadd, 1) := by decide +kernel
theorem dX12_digest_68 : decode cX12_digest 68 = .ok (.iload_n 3, 1) := by decide +kernel
theorem dX12_digest_69 : decode cX12_digest 69 = .ok (.iadd, 1) := by decide +kernel
theorem dX12_digest_70 : decode cX12_digest 70 = .ok (.iaload, 1) := by decide +kernel
theorem dX12_digest_71 : decode cX12_digest 71 = .ok (.i2l, 1) := by decide +kernel
theorem dX12_digest_72 : decode cX12_digest 72 = .ok (.ladd, 1) := by decide +kernel
theorem dX12_digest_73 : decode cX12_digest 73 = .ok (.lstore_n 1, 1) := by decide +kernel
theorem dX12_digest_74 : decode cX12_digest 74 = .ok (.iinc 4 1, 3) := by decide +kernel
theorem dX12_digest_77 : decode cX12_digest 77 = .ok (.goto (-31), 3) := by decide +kernel
theorem dX12_digest_80 : decode cX12_digest 80 = .ok (.iinc 3 1, 3) := by decide +kernel
theorem dX12_digest_83 : decode cX12_digest 83 = .ok (.goto (-50), 3) := by decide +kernel
theorem dX12_digest_86 : decode cX12_digest 86 = .ok (.ldc2_w 241, 3) := by decide +kernel
theorem dX12_digest_89 : decode cX12_digest 89 = .ok (.lload_n 1, 1) := by decide +kernel
theorem dX12_digest_90 : decode cX12_digest 90 = .ok (.lmul, 1) := by decide +kernel
theorem dX12_digest_91 : decode cX12_digest 91 = .ok (.aload_n 0, 1) := by decide +kernel
theorem dX12_digest_92 : decode cX12_digest 92 = .ok (.aload_n 0, 1) := by decide +kernel
theorem dX12_digest_93 : decode cX12_digest 93 = .ok (.getfield 7, 3) := by decide +kernel
theorem dX12_digest_96 : decode cX12_digest 96 = .ok (.iconst 0, 1) := by decide +kernel
theorem dX12_digest_97 : decode cX12_digest 97 = .ok (.iaload, 1) := by decide +kernel
theorem dX12_digest_98 : decode cX12_digest 98 = .ok (.invokevirtual 126, 3) := by decide +kernel
theorem dX12_digest_101 : decode cX12_digest 101 = .ok (.i2l, 1) := by decide +kernel
theorem dX12_digest_102 : decode cX12_digest 102 = .ok (.ladd, 1) := by decide +kernel
theorem dX12_digest_103 : decode cX12_digest 103 = .ok (.lstore_n 1, 1) := by decide +kernel
theorem dX12_digest_104 : decode cX12_digest 104 = .ok (.aload_n 0, 1) := by decide +kernel
theorem dX12_digest_105 : decode cX12_digest 105 = .ok (.invokevirtual 160, 3) := by decide +kernel
theorem dX12_digest_108 : decode cX12_digest 108 = .ok (.iconst 0, 1) := by decide +kernel
theorem dX12_digest_109 : decode cX12_digest 109 = .ok (.istore_n 3, 1) := by decide +kernel
theorem dX12_digest_110 : decode cX12_digest 110 = .ok (.iload_n 3, 1) := by decide +kernel
theorem dX12_digest_111 : decode cX12_digest 111 = .ok (.aload_n 0, 1) := by decide +kernel
theorem dX12_digest_112 : decode cX12_digest 112 = .ok (.getfield 7, 3) := by decide +kernel
theorem dX12_digest_115 : decode cX12_digest 115 = .ok (.iconst 1, 1) := by decide +kernel
theorem dX12_digest_116 : decode cX12_digest 116 = .ok (.iaload, 1) := by decide +kernel
theorem dX12_digest_117 : decode cX12_digest 117 = .ok (.if_icmp .ge 89, 3) := by decide +kernel
theorem dX12_digest_120 : decode cX12_digest 120 = .ok (.aload_n 0, 1) := by decide +kernel
theorem dX12_digest_121 : decode cX12_digest 121 = .ok (.iload_n 3, 1) := by decide +kernel
theorem dX12_digest_122 : decode cX12_digest 122 = .ok (.invokevirtual 163, 3) := by decide +kernel
theorem dX12_digest_125 : decode cX12_digest 125 = .ok (.aload_n 0, 1) := by decide +kernel
theorem dX12_digest_126 : decode cX12_digest 126 = .ok (.iload_n 3, 1) := by decide +kernel
theorem dX12_digest_127 : decode cX12_digest 127 = .ok (.invokevirtual 144, 3) := by decide +kernel
theorem dX12_digest_130 : decode cX12_digest 130 = .ok (.istore 4, 2) := by decide +kernel
theorem dX12_digest_132 : decode cX12_digest 132 = .ok (.ldc2_w 241, 3) := by decide +kernel
theorem dX12_digest_135 : decode cX12_digest 135 = .ok (.lload_n 1, 1) := by decide +kernel
theorem dX12_digest_136 : decode cX12_digest 136 = .ok (.lmul, 1) := by decide +kernel
theorem dX12_digest_137 : decode cX12_digest 137 = .ok (.iload 4, 2) := by decide +kernel
theorem dX12_digest_139 : decode cX12_digest 139 = .ok (.iconst 1, 1) := by decide +kernel
theorem dX12_digest_140 : decode cX12_digest 140 = .ok (.iand, 1) := by decide +kernel
theorem dX12_digest_141 : decode cX12_digest 141 = .ok (.i2l, 1) := by decide +kernel
theorem dX12_digest_142 : decode cX12_digest 142 = .ok (.ladd, 1) := by decide +kernel
theorem dX12_digest_143 : decode cX12_digest 143 = .ok (.iload 4, 2) := by decide +kernel
theorem dX12_digest_145 : decode cX12_digest 145 = .ok (.iconst 1, 1) := by decide +kernel
theorem dX12_digest_146 : decode cX12_digest 146 = .ok (.ishr, 1) := by decide +kernel
theorem dX12_digest_147 : decode cX12_digest 147 = .ok (.iconst 1, 1) := by decide +kernel
theorem dX12_digest_148 : decode cX12_digest 148 = .ok (.iand, 1) := by decide +kernel
theorem dX12_digest_149 : decode cX12_digest 149 = .ok (.i2l, 1) := by decide +kernel
theorem dX12_digest_150 : decode cX12_digest 150 = .ok (.ladd, 1) := by decide +kernel
theorem dX12_digest_151 : decode cX12_digest 151 = .ok (.iload 4, 2) := by decide +kernel
theorem dX12_digest_153 : decode cX12_digest 153 = .ok (.iconst 2, 1) := by decide +kernel
theorem dX12_digest_154 : decode cX12_digest 154 = .ok (.ishr, 1) := by decide +kernel
theorem dX12_digest_155 : decode cX12_digest 155 = .ok (.i2l, 1) := by decide +kernel
theorem dX12_digest_156 : decode cX12_digest 156 = .ok (.ladd, 1) := by decide +kernel
theorem dX12_digest_157 : decode cX12_digest 157 = .ok (.lstore_n 1, 1) := by decide +kernel
theorem dX12_digest_158 : decode cX12_digest 158 = .ok (.ldc2_w 241, 3) := by decide +kernel
theorem dX12_digest_161 : decode cX12_digest 161 = .ok (.lload_n 1, 1) := by decide +kernel
theorem dX12_digest_162 : decode cX12_digest 162 = .ok (.lmul, 1) := by decide +kernel
theorem dX12_digest_163 : decode cX12_digest 163 = .ok (.aload_n 0, 1) := by decide +kernel
theorem dX12_digest_164 : decode cX12_digest 164 = .ok (.iload_n 3, 1) := by decide +kernel
theorem dX12_digest_165 : decode cX12_digest 165 = .ok (.iconst 1, 1) := by decide +kernel
theorem dX12_digest_166 : decode cX12_digest 166 = .ok (.invokevirtual 157, 3) := by decide +kernel
theorem dX12_digest_169 : decode cX12_digest 169 = .ok (.i2l, 1) := by decide +kernel
theorem dX12_digest_170 : decode cX12_digest 170 = .ok (.ladd, 1) := by decide +kernel
theorem dX12_digest_171 : decode cX12_digest 171 = .ok (.lstore_n 1, 1) := by decide +kernel
theorem dX12_digest_172 : decode cX12_digest 172 = .ok (.ldc2_w 241, 3) := by decide +kernel
theorem dX12_digest_175 : decode cX12_digest 175 = .ok (.lload_n 1, 1) := by decide +kernel
theorem dX12_digest_176 : decode cX12_digest 176 = .ok (.lmul, 1) := by decide +kernel
theorem dX12_digest_177 : decode cX12_digest 177 = .ok (.aload_n 0, 1) := by decide +kernel
theorem dX12_digest_178 : decode cX12_digest 178 = .ok (.iload_n 3, 1) := by decide +kernel
theorem dX12_digest_179 : decode cX12_digest 179 = .ok (.iconst 0, 1) := by decide +kernel
theorem dX12_digest_180 : decode cX12_digest 180 = .ok (.invokevirtual 157, 3) := by decide +kernel
theorem dX12_digest_183 : decode cX12_digest 183 = .ok (.i2l, 1) := by decide +kernel
theorem dX12_digest_184 : decode cX12_digest 184 = .ok (.ladd, 1) := by decide +kernel
theorem dX12_digest_185 : decode cX12_digest 185 = .ok (.lstore_n 1, 1) := by decide +kernel
theorem dX12_digest_186 : decode cX12_digest 186 = .ok (.ldc2_w 241, 3) := by decide +kernel
theorem dX12_digest_189 : decode cX12_digest 189 = .ok (.lload_n 1, 1) := by decide +kernel
theorem dX12_digest_190 : decode cX12_digest 190 = .ok (.lmul, 1) := by decide +kernel
theorem dX12_digest_191 : decode cX12_digest 191 = .ok (.aload_n 0, 1) := by decide +kernel
theorem dX12_digest_192 : decode cX12_digest 192 = .ok (.getfield 64, 3) := by decide +kernel
theorem dX12_digest_195 : decode cX12_digest 195 = .ok (.iload_n 3, 1) := by decide +kernel
theorem dX12_digest_196 : decode cX12_digest 196 = .ok (.iaload, 1) := by decide +kernel
theorem dX12_digest_197 : decode cX12_digest 197 = .ok (.i2l, 1) := by decide +kernel
theorem dX12_digest_198 : decode cX12_digest 198 = .ok (.ladd, 1) := by decide +kernel
theorem dX12_digest_199 : decode cX12_digest 199 = .ok (.lstore_n 1, 1) := by decide +kernel
theorem dX12_digest_200 : decode cX12_digest 200 = .ok (.iinc 3 1, 3) := by decide +kernel
theorem dX12_digest_203 : decode cX12_digest 203 = .ok (.goto (-93), 3) := by decide +kernel
theorem dX12_digest_206 : decode cX12_digest 206 = .ok (.lload_n 1, 1) := by decide +kernel
theorem dX12_digest_207 : decode cX12_digest 207 = .ok (.lreturn, 1) := by decide +kernel
theorem dJ6_bitCount_0f7a4_0 : decode cJ6_bitCount_0f7a4 0 = .ok (.iload_n 0, 1) := by decide +kernel
theorem dJ6_bitCount_0f7a4_1 : decode cJ6_bitCount_0f7a4 1 = .ok (.iload_n 0, 1) := by decide +kernel
theorem dJ6_bitCount_0f7a4_2 : decode cJ6_bitCount_0f7a4 2 = .ok (.iconst 1, 1) := by decide +kernel
theorem dJ6_bitCount_0f7a4_3 : decode cJ6_bitCount_0f7a4 3 = .ok (.iushr, 1) := by decide +kernel
theorem dJ6_bitCount_0f7a4_4 : decode cJ6_bitCount_0f7a4 4 = .ok (.ldc_w 265, 3) := by decide +kernel
theorem dJ6_bitCount_0f7a4_7 : decode cJ6_bitCount_0f7a4 7 = .ok (.iand, 1) := by decide +kernel
theorem dJ6_bitCount_0f7a4_8 : decode cJ6_bitCount_0f7a4 8 = .ok (.isub, 1) := by decide +kernel
theorem dJ6_bitCount_0f7a4_9 : decode cJ6_bitCount_0f7a4 9 = .ok (.istore_n 0, 1) := by decide +kernel
theorem dJ6_bitCount_0f7a4_10 : decode cJ6_bitCount_0f7a4 10 = .ok (.iload_n 0, 1) := by decide +kernel
theorem dJ6_bitCount_0f7a4_11 : decode cJ6_bitCount_0f7a4 11 = .ok (.ldc_w 266, 3) := by decide +kernel
theorem dJ6_bitCount_0f7a4_14 : decode cJ6_bitCount_0f7a4 14 = .ok (.iand, 1) := by decide +kernel
theorem dJ6_bitCount_0f7a4_15 : decode cJ6_bitCount_0f7a4 15 = .ok (.iload_n 0, 1) := by decide +kernel
theorem dJ6_bitCount_0f7a4_16 : decode cJ6_bitCount_0f7a4 16 = .ok (.iconst 2, 1) := by decide +kernel
theorem dJ6_bitCount_0f7a4_17 : decode cJ6_bitCount_0f7a4 17 = .ok (.iushr, 1) := by decide +kernel
theorem dJ6_bitCount_0f7a4_18 : decode cJ6_bitCount_0f7a4 18 = .ok (.ldc_w 266, 3) := by decide +kernel
theorem dJ6_bitCount_0f7a4_21 : decode cJ6_bitCount_0f7a4 21 = .ok (.iand, 1) := by decide +kernel
theorem dJ6_bitCount_0f7a4_22 : decode cJ6_bitCount_0f7a4 22 = .ok (.iadd, 1) := by decide +kernel
theorem dJ6_bitCount_0f7a4_23 : decode cJ6_bitCount_0f7a4 23 = .ok (.istore_n 0, 1) := by decide +kernel
theorem dJ6_bitCount_0f7a4_24 : decode cJ6_bitCount_0f7a4 24 = .ok (.iload_n 0, 1) := by decide +kernel
theorem dJ6_bitCount_0f7a4_25 : decode cJ6_bitCount_0f7a4 25 = .ok (.iload_n 0, 1) := by decide +kernel
theorem dJ6_bitCount_0f7a4_26 : decode cJ6_bitCount_0f7a4 26 = .ok (.iconst 4, 1) := by decide +kernel
theorem dJ6_bitCount_0f7a4_27 : decode cJ6_bitCount_0f7a4 27 = .ok (.iushr, 1) := by decide +kernel
theorem dJ6_bitCount_0f7a4_28 : decode cJ6_bitCount_0f7a4 28 = .ok (.iadd, 1) := by decide +kernel
theorem dJ6_bitCount_0f7a4_29 : decode cJ6_bitCount_0f7a4 29 = .ok (.ldc_w 267, 3) := by decide +kernel
theorem dJ6_bitCount_0f7a4_32 : decode cJ6_bitCount_0f7a4 32 = .ok (.iand, 1) := by decide +kernel
theorem dJ6_bitCount_0f7a4_33 : decode cJ6_bitCount_0f7a4 33 = .ok (.istore_n 0, 1) := by decide +kernel
theorem dJ6_bitCount_0f7a4_34 : decode cJ6_bitCount_0f7a4 34 = .ok (.iload_n 0, 1) := by decide +kernel
theorem dJ6_bitCount_0f7a4_35 : decode cJ6_bitCount_0f7a4 35 = .ok (.iload_n 0, 1) := by decide +kernel
theorem dJ6_bitCount_0f7a4_36 : decode cJ6_bitCount_0f7a4 36 = .ok (.bipush 8, 2) := by decide +kernel
theorem dJ6_bitCount_0f7a4_38 : decode cJ6_bitCount_0f7a4 38 = .ok (.iushr, 1) := by decide +kernel
theorem dJ6_bitCount_0f7a4_39 : decode cJ6_bitCount_0f7a4 39 = .ok (.iadd, 1) := by decide +kernel
theorem dJ6_bitCount_0f7a4_40 : decode cJ6_bitCount_0f7a4 40 = .ok (.istore_n 0, 1) := by decide +kernel
theorem dJ6_bitCount_0f7a4_41 : decode cJ6_bitCount_0f7a4 41 = .ok (.iload_n 0, 1) := by decide +kernel
theorem dJ6_bitCount_0f7a4_42 : decode cJ6_bitCount_0f7a4 42 = .ok (.iload_n 0, 1) := by decide +kernel
theorem dJ6_bitCount_0f7a4_43 : decode cJ6_bitCount_0f7a4 43 = .ok (.bipush 16, 2) := by decide +kernel
theorem dJ6_bitCount_0f7a4_45 : decode cJ6_bitCount_0f7a4 45 = .ok (.iushr, 1) := by decide +kernel
theorem dJ6_bitCount_0f7a4_46 : decode cJ6_bitCount_0f7a4 46 = .ok (.iadd, 1) := by decide +kernel
theorem dJ6_bitCount_0f7a4_47 : decode cJ6_bitCount_0f7a4 47 = .ok (.istore_n 0, 1) := by decide +kernel
theorem dJ6_bitCount_0f7a4_48 : decode cJ6_bitCount_0f7a4 48 = .ok (.iload_n 0, 1) := by decide +kernel
theorem dJ6_bitCount_0f7a4_49 : decode cJ6_bitCount_0f7a4 49 = .ok (.bipush 63, 2) := by decide +kernel
theorem dJ6_bitCount_0f7a4_51 : decode cJ6_bitCount_0f7a4 51 = .ok (.iand, 1) := by decide +kernel
theorem dJ6_bitCount_0f7a4_52 : decode cJ6_bitCount_0f7a4 52 = .ok (.ireturn, 1) := by decide +kernel
theorem dJ9_max_7cf53_0 : decode cJ9_max_7cf53 0 = .ok (.iload_n 0, 1) := by decide +kernel
theorem dJ9_max_7cf53_1 : decode cJ9_max_7cf53 1 = .ok (.iload_n 1, 1) := by decide +kernel
theorem dJ9_max_7cf53_2 : decode cJ9_max_7cf53 2 = .ok (.if_icmp .lt 7, 3) := by decide +kernel
theorem dJ9_max_7cf53_5 : decode cJ9_max_7cf53 5 = .ok (.iload_n 0, 1) := by decide +kernel
theorem dJ9_max_7cf53_6 : decode cJ9_max_7cf53 6 = .ok (.goto 4, 3) := by decide +kernel
theorem dJ9_max_7cf53_9 : decode cJ9_max_7cf53 9 = .ok (.iload_n 1, 1) := by decide +kernel
theorem dJ9_max_7cf53_10 : decode cJ9_max_7cf53 10 = .ok (.ireturn, 1) := by decide +kernel
theorem dJ9_min_7cf53_0 : decode cJ9_min_7cf53 0 = .ok (.iload_n 0, 1) := by decide +kernel
theorem dJ9_min_7cf53_1 : decode cJ9_min_7cf53 1 = .ok (.iload_n 1, 1) := by decide +kernel
theorem dJ9_min_7cf53_2 : decode cJ9_min_7cf53 2 = .ok (.if_icmp .gt 7, 3) := by decide +kernel
theorem dJ9_min_7cf53_5 : decode cJ9_min_7cf53 5 = .ok (.iload_n 0, 1) := by decide +kernel
theorem dJ9_min_7cf53_6 : decode cJ9_min_7cf53 6 = .ok (.goto 4, 3) := by decide +kernel
theorem dJ9_min_7cf53_9 : decode cJ9_min_7cf53 9 = .ok (.iload_n 1, 1) := by decide +kernel
theorem dJ9_min_7cf53_10 : decode cJ9_min_7cf53 10 = .ok (.ireturn, 1) := by decide +kernel
theorem dJ0_charAt_5068e_0 : decode cJ0_charAt_5068e 0 = .ok (.aload_n 0, 1) := by decide +kernel
theorem dJ0_charAt_5068e_1 : decode cJ0_charAt_5068e 1 = .ok (.invokevirtual 492, 3) := by decide +kernel
theorem dJ0_charAt_5068e_4 : decode cJ0_charAt_5068e 4 = .ok (.ifCond .eq 12, 3) := by decide +kernel
theorem dJ0_charAt_5068e_7 : decode cJ0_charAt_5068e 7 = .ok (.aload_n 0, 1) := by decide +kernel
theorem dJ0_charAt_5068e_8 : decode cJ0_charAt_5068e 8 = .ok (.getfield 9, 3) := by decide +kernel
theorem dJ0_charAt_5068e_11 : decode cJ0_charAt_5068e 11 = .ok (.iload_n 1, 1) := by decide +kernel
theorem dJ0_charAt_5068e_12 : decode cJ0_charAt_5068e 12 = .ok (.invokestatic 495, 3) := by decide +kernel
theorem dJ0_charAt_5068e_15 : decode cJ0_charAt_5068e 15 = .ok (.ireturn, 1) := by decide +kernel
theorem dJ0_charAt_5068e_16 : decode cJ0_charAt_5068e 16 = .ok (.aload_n 0, 1) := by decide +kernel
theorem dJ0_charAt_5068e_17 : decode cJ0_charAt_5068e 17 = .ok (.getfield 9, 3) := by decide +kernel
theorem dJ0_charAt_5068e_20 : decode cJ0_charAt_5068e 20 = .ok (.iload_n 1, 1) := by decide +kernel
theorem dJ0_charAt_5068e_21 : decode cJ0_charAt_5068e 21 = .ok (.invokestatic 498, 3) := by decide +kernel
theorem dJ0_charAt_5068e_24 : decode cJ0_charAt_5068e 24 = .ok (.ireturn, 1) := by decide +kernel
theorem dJ0_isLatin1_aae02_0 : decode cJ0_isLatin1_aae02 0 = .ok (.getstatic 38, 3) := by decide +kernel
theorem dJ0_isLatin1_aae02_3 : decode cJ0_isLatin1_aae02 3 = .ok (.ifCond .eq 14, 3) := by decide +kernel
theorem dJ0_isLatin1_aae02_6 : decode cJ0_isLatin1_aae02 6 = .ok (.aload_n 0, 1) := by decide +kernel
theorem dJ0_isLatin1_aae02_7 : decode cJ0_isLatin1_aae02 7 = .ok (.getfield 15, 3) := by decide +kernel
theorem dJ0_isLatin1_aae02_10 : decode cJ0_isLatin1_aae02 10 = .ok (.ifCond .ne 7, 3) := by decide +kernel
theorem dJ0_isLatin1_aae02_13 : decode cJ0_isLatin1_aae02 13 = .ok (.iconst 1, 1) := by decide +kernel
theorem dJ0_isLatin1_aae02_14 : decode cJ0_isLatin1_aae02 14 = .ok (.goto 4, 3) := by decide +kernel
theorem dJ0_isLatin1_aae02_17 : decode cJ0_isLatin1_aae02 17 = .ok (.iconst 0, 1) := by decide +kernel
theorem dJ0_isLatin1_aae02_18 : decode cJ0_isLatin1_aae02 18 = .ok (.ireturn, 1) := by decide +kernel
theorem dJ0_checkIndex_df160_0 : decode cJ0_checkIndex_df160 0 = .ok (.iload_n 0, 1) := by decide +kernel
theorem dJ0_checkIndex_df160_1 : decode cJ0_checkIndex_df160 1 = .ok (.iload_n 1, 1) := by decide +kernel
theorem dJ0_checkIndex_df160_2 : decode cJ0_checkIndex_df160 2 = .ok (.getstatic 1053, 3) := by decide +kernel
theorem dJ0_checkIndex_df160_5 : decode cJ0_checkIndex_df160 5 = .ok (.invokestatic 1059, 3) := by decide +kernel
theorem dJ0_checkIndex_df160_8 : decode cJ0_checkIndex_df160 8 = .ok (.pop, 1) := by decide +kernel
theorem dJ0_checkIndex_df160_9 : decode cJ0_checkIndex_df160 9 = .ok (.return_, 1) := by decide +kernel
theorem dJ1_charAt_3b067_0 : decode cJ1_charAt_3b067 0 = .ok (.iload_n 1, 1) := by decide +kernel
theorem dJ1_charAt_3b067_1 : decode cJ1_charAt_3b067 1 = .ok (.aload_n 0, 1) := by decide +kernel
theorem dJ1_charAt_3b067_2 : decode cJ1_charAt_3b067 2 = .ok (.arraylength, 1) := by decide +kernel
theorem dJ1_charAt_3b067_3 : decode cJ1_charAt_3b067 3 = .ok (.invokestatic 9, 3) := by decide +kernel
theorem dJ1_charAt_3b067_6 : decode cJ1_charAt_3b067 6 = .ok (.aload_n 0, 1) := by decide +kernel
theorem dJ1_charAt_3b067_7 : decode cJ1_charAt_3b067 7 = .ok (.iload_n 1, 1) := by decide +kernel
theorem dJ1_charAt_3b067_8 : decode cJ1_charAt_3b067 8 = .ok (.baload, 1) := by decide +kernel
theorem dJ1_charAt_3b067_9 : decode cJ1_charAt_3b067 9 = .ok (.sipush 255, 3) := by decide +kernel
theorem dJ1_charAt_3b067_12 : decode cJ1_charAt_3b067 12 = .ok (.iand, 1) := by decide +kernel
theorem dJ1_charAt_3b067_13 : decode cJ1_charAt_3b067 13 = .ok (.i2c, 1) := by decide +kernel
theorem dJ1_charAt_3b067_14 : decode cJ1_charAt_3b067 14 = .ok (.ireturn, 1) := by decide +kernel
theorem dJ2_getChar_3b067_0 : decode cJ2_getChar_3b067 0 = .ok (.getstatic 44, 3) := by decide +kernel
theorem dJ2_getChar_3b067_3 : decode cJ2_getChar_3b067 3 = .ok (.ifCond .ne 25, 3) := by decide +kernel
theorem dJ2_getChar_3b067_6 : decode cJ2_getChar_3b067 6 = .ok (.iload_n 1, 1) := by decide +kernel
theorem dJ2_getChar_3b067_7 : decode cJ2_getChar_3b067 7 = .ok (.ifCond .lt 11, 3) := by decide +kernel
theorem dJ2_getChar_3b067_10 : decode cJ2_getChar_3b067 10 = .ok (.iload_n 1, 1) := by decide +kernel
theorem dJ2_getChar_3b067_11 : decode cJ2_getChar_3b067 11 = .ok (.aload_n 0, 1) := by decide +kernel
theorem dJ2_getChar_3b067_12 : decode cJ2_getChar_3b067 12 = .ok (.invokestatic 48, 3) := by decide +kernel
theorem dJ2_getChar_3b067_15 : decode cJ2_getChar_3b067 15 = .ok (.if_icmp .lt 13, 3) := by decide +kernel
theorem dJ2_getChar_3b067_18 : decode cJ2_getChar_3b067 18 = .ok (.new 52, 3) := by decide +kernel
theorem dJ2_getChar_3b067_21 : decode cJ2_getChar_3b067 21 = .ok (.dup, 1) := by decide +kernel
theorem dJ2_getChar_3b067_22 : decode cJ2_getChar_3b067 22 = .ok (.ldc 54, 2) := by decide +kernel
theorem dJ2_getChar_3b067_24 : decode cJ2_getChar_3b067 24 = .ok (.invokespecial 56, 3) := by decide +kernel
theorem dJ2_getChar_3b067_27 : decode cJ2_getChar_3b067 27 = .ok (.athrow, 1) := by decide +kernel
theorem dJ2_getChar_3b067_28 : decode cJ2_getChar_3b067 28 = .ok (.iload_n 1, 1) := by decide +kernel
theorem dJ2_getChar_3b067_29 : decode cJ2_getChar_3b067 29 = .ok (.iconst 1, 1) := by decide +kernel
theorem dJ2_getChar_3b067_30 : decode cJ2_getChar_3b067 30 = .ok (.ishl, 1) := by decide +kernel
theorem dJ2_getChar_3b067_31 : decode cJ2_getChar_3b067 31 = .ok (.istore_n 1, 1) := by decide +kernel
theorem dJ2_getChar_3b067_32 : decode cJ2_getChar_3b067 32 = .ok (.aload_n 0, 1) := by decide +kernel
theorem dJ2_getChar_3b067_33 : decode cJ2_getChar_3b067 33 = .ok (.iload_n 1, 1) := by decide +kernel
theorem dJ2_getChar_3b067_34 : decode cJ2_getChar_3b067 34 = .ok (.iinc 1 1, 3) := by decide +kernel
theorem dJ2_getChar_3b067_37 : decode cJ2_getChar_3b067 37 = .ok (.baload, 1) := by decide +kernel
theorem dJ2_getChar_3b067_38 : decode cJ2_getChar_3b067 38 = .ok (.sipush 255, 3) := by decide +kernel
theorem dJ2_getChar_3b067_41 : decode cJ2_getChar_3b067 41 = .ok (.iand, 1) := by decide +kernel
theorem dJ2_getChar_3b067_42 : decode cJ2_getChar_3b067 42 = .ok (.getstatic 59, 3) := by decide +kernel
theorem dJ2_getChar_3b067_45 : decode cJ2_getChar_3b067 45 = .ok (.ishl, 1) := by decide +kernel
theorem dJ2_getChar_3b067_46 : decode cJ2_getChar_3b067 46 = .ok (.aload_n 0, 1) := by decide +kernel
theorem dJ2_getChar_3b067_47 : decode cJ2_getChar_3b067 47 = .ok (.iload_n 1, 1) := by decide +kernel
theorem dJ2_getChar_3b067_48 : decode cJ2_getChar_3b067 48 = .ok (.baload, 1) := by decide +kernel
theorem dJ2_getChar_3b067_49 : decode cJ2_getChar_3b067 49 = .ok (.sipush 255, 3) := by decide +kernel
theorem dJ2_getChar_3b067_52 : decode cJ2_getChar_3b067 52 = .ok (.iand, 1) := by decide +kernel
theorem dJ2_getChar_3b067_53 : decode cJ2_getChar_3b067 53 = .ok (.getstatic 63, 3) := by decide +kernel
theorem dJ2_getChar_3b067_56 : decode cJ2_getChar_3b067 56 = .ok (.ishl, 1) := by decide +kernel
theorem dJ2_getChar_3b067_57 : decode cJ2_getChar_3b067 57 = .ok (.ior, 1) := by decide +kernel
theorem dJ2_getChar_3b067_58 : decode cJ2_getChar_3b067 58 = .ok (.i2c, 1) := by decide +kernel
theorem dJ2_getChar_3b067_59 : decode cJ2_getChar_3b067 59 = .ok (.ireturn, 1) := by decide +kernel
theorem dJ2_length_9d52b_0 : decode cJ2_length_9d52b 0 = .ok (.aload_n 0, 1) := by decide +kernel
theorem dJ2_length_9d52b_1 : decode cJ2_length_9d52b 1 = .ok (.arraylength, 1) := by decide +kernel
theorem dJ2_length_9d52b_2 : decode cJ2_length_9d52b 2 = .ok (.iconst 1, 1) := by decide +kernel
theorem dJ2_length_9d52b_3 : decode cJ2_length_9d52b 3 = .ok (.ishr, 1) := by decide +kernel
theorem dJ2_length_9d52b_4 : decode cJ2_length_9d52b 4 = .ok (.ireturn, 1) := by decide +kernel
theorem dJ2_charAt_3b067_0 : decode cJ2_charAt_3b067 0 = .ok (.iload_n 1, 1) := by decide +kernel
theorem dJ2_charAt_3b067_1 : decode cJ2_charAt_3b067 1 = .ok (.aload_n 0, 1) := by decide +kernel
theorem dJ2_charAt_3b067_2 : decode cJ2_charAt_3b067 2 = .ok (.invokestatic 67, 3) := by decide +kernel
theorem dJ2_charAt_3b067_5 : decode cJ2_charAt_3b067 5 = .ok (.aload_n 0, 1) := by decide +kernel
theorem dJ2_charAt_3b067_6 : decode cJ2_charAt_3b067 6 = .ok (.iload_n 1, 1) := by decide +kernel
theorem dJ2_charAt_3b067_7 : decode cJ2_charAt_3b067 7 = .ok (.invokestatic 71, 3) := by decide +kernel
theorem dJ2_charAt_3b067_10 : decode cJ2_charAt_3b067 10 = .ok (.ireturn, 1) := by decide +kernel
theorem dJ2_checkIndex_2214a_0 : decode cJ2_checkIndex_2214a 0 = .ok (.iload_n 0, 1) := by decide +kernel
theorem dJ2_checkIndex_2214a_1 : decode cJ2_checkIndex_2214a 1 = .ok (.aload_n 1, 1) := by decide +kernel
theorem dJ2_checkIndex_2214a_2 : decode cJ2_checkIndex_2214a 2 = .ok (.invokestatic 48, 3) := by decide +kernel
theorem dJ2_checkIndex_2214a_5 : decode cJ2_checkIndex_2214a 5 = .ok (.invokestatic 414, 3) := by decide +kernel
theorem dJ2_checkIndex_2214a_8 : decode cJ2_checkIndex_2214a 8 = .ok (.return_, 1) := by decide +kernel
theorem dJ7_fill_d0a16_0 : decode cJ7_fill_d0a16 0 = .ok (.iconst 0, 1) := by decide +kernel
theorem dJ7_fill_d0a16_1 : decode cJ7_fill_d0a16 1 = .ok (.istore_n 3, 1) := by decide +kernel
theorem dJ7_fill_d0a16_2 : decode cJ7_fill_d0a16 2 = .ok (.aload_n 0, 1) := by decide +kernel
theorem dJ7_fill_d0a16_3 : decode cJ7_fill_d0a16 3 = .ok (.arraylength, 1) := by decide +kernel
theorem dJ7_fill_d0a16_4 : decode cJ7_fill_d0a16 4 = .ok (.istore 4, 2) := by decide +kernel
theorem dJ7_fill_d0a16_6 : decode cJ7_fill_d0a16 6 = .ok (.iload_n 3, 1) := by decide +kernel
theorem dJ7_fill_d0a16_7 : decode cJ7_fill_d0a16 7 = .ok (.iload 4, 2) := by decide +kernel
theorem dJ7_fill_d0a16_9 : decode cJ7_fill_d0a16 9 = .ok (.if_icmp .ge 13, 3) := by decide +kernel
theorem dJ7_fill_d0a16_12 : decode cJ7_fill_d0a16 12 = .ok (.aload_n 0, 1) := by decide +kernel
theorem dJ7_fill_d0a16_13 : decode cJ7_fill_d0a16 13 = .ok (.iload_n 3, 1) := by decide +kernel
theorem dJ7_fill_d0a16_14 : decode cJ7_fill_d0a16 14 = .ok (.lload_n 1, 1) := by decide +kernel
theorem dJ7_fill_d0a16_15 : decode cJ7_fill_d0a16 15 = .ok (.lastore, 1) := by decide +kernel
theorem dJ7_fill_d0a16_16 : decode cJ7_fill_d0a16 16 = .ok (.iinc 3 1, 3) := by decide +kernel
theorem dJ7_fill_d0a16_19 : decode cJ7_fill_d0a16 19 = .ok (.goto (-13), 3) := by decide +kernel
theorem dJ7_fill_d0a16_22 : decode cJ7_fill_d0a16 22 = .ok (.return_, 1) := by decide +kernel
theorem dJ7_fill_53178_0 : decode cJ7_fill_53178 0 = .ok (.iconst 0, 1) := by decide +kernel
theorem dJ7_fill_53178_1 : decode cJ7_fill_53178 1 = .ok (.istore_n 2, 1) := by decide +kernel
theorem dJ7_fill_53178_2 : decode cJ7_fill_53178 2 = .ok (.aload_n 0, 1) := by decide +kernel
theorem dJ7_fill_53178_3 : decode cJ7_fill_53178 3 = .ok (.arraylength, 1) := by decide +kernel
theorem dJ7_fill_53178_4 : decode cJ7_fill_53178 4 = .ok (.istore_n 3, 1) := by decide +kernel
theorem dJ7_fill_53178_5 : decode cJ7_fill_53178 5 = .ok (.iload_n 2, 1) := by decide +kernel
theorem dJ7_fill_53178_6 : decode cJ7_fill_53178 6 = .ok (.iload_n 3, 1) := by decide +kernel
theorem dJ7_fill_53178_7 : decode cJ7_fill_53178 7 = .ok (.if_icmp .ge 13, 3) := by decide +kernel
theorem dJ7_fill_53178_10 : decode cJ7_fill_53178 10 = .ok (.aload_n 0, 1) := by decide +kernel
theorem dJ7_fill_53178_11 : decode cJ7_fill_53178 11 = .ok (.iload_n 2, 1) := by decide +kernel
theorem dJ7_fill_53178_12 : decode cJ7_fill_53178 12 = .ok (.iload_n 1, 1) := by decide +kernel
theorem dJ7_fill_53178_13 : decode cJ7_fill_53178 13 = .ok (.iastore, 1) := by decide +kernel
theorem dJ7_fill_53178_14 : decode cJ7_fill_53178 14 = .ok (.iinc 2 1, 3) := by decide +kernel
theorem dJ7_fill_53178_17 : decode cJ7_fill_53178 17 = .ok (.goto (-12), 3) := by decide +kernel
theorem dJ7_fill_53178_20 : decode cJ7_fill_53178 20 = .ok (.return_, 1) := by decide +kernel
theorem dJ3_checkIndex_8e157_0 : decode cJ3_checkIndex_8e157 0 = .ok (.iload_n 0, 1) := by decide +kernel
theorem dJ3_checkIndex_8e157_1 : decode cJ3_checkIndex_8e157 1 = .ok (.ifCond .lt 8, 3) := by decide +kernel
theorem dJ3_checkIndex_8e157_4 : decode cJ3_checkIndex_8e157 4 = .ok (.iload_n 0, 1) := by decide +kernel
theorem dJ3_checkIndex_8e157_5 : decode cJ3_checkIndex_8e157 5 = .ok (.iload_n 1, 1) := by decide +kernel
theorem dJ3_checkIndex_8e157_6 : decode cJ3_checkIndex_8e157 6 = .ok (.if_icmp .lt 10, 3) := by decide +kernel
theorem dJ3_checkIndex_8e157_9 : decode cJ3_checkIndex_8e157 9 = .ok (.aload_n 2, 1) := by decide +kernel
theorem dJ3_checkIndex_8e157_10 : decode cJ3_checkIndex_8e157 10 = .ok (.iload_n 0, 1) := by decide +kernel
theorem dJ3_checkIndex_8e157_11 : decode cJ3_checkIndex_8e157 11 = .ok (.iload_n 1, 1) := by decide +kernel
theorem dJ3_checkIndex_8e157_12 : decode cJ3_checkIndex_8e157 12 = .ok (.invokestatic 95, 3) := by decide +kernel
theorem dJ3_checkIndex_8e157_15 : decode cJ3_checkIndex_8e157 15 = .ok (.athrow, 1) := by decide +kernel
theorem dJ3_checkIndex_8e157_16 : decode cJ3_checkIndex_8e157 16 = .ok (.iload_n 0, 1) := by decide +kernel
theorem dJ3_checkIndex_8e157_17 : decode cJ3_checkIndex_8e157 17 = .ok (.ireturn, 1) := by decide +kernel
theorem dL_law_0 : decode cL_law 0 = .ok (.new 7, 3) := by decide +kernel
theorem dL_law_3 : decode cL_law 3 = .ok (.dup, 1) := by decide +kernel
theorem dL_law_4 : decode cL_law 4 = .ok (.invokespecial 9, 3) := by decide +kernel
theorem dL_law_7 : decode cL_law 7 = .ok (.astore_n 1, 1) := by decide +kernel
theorem dL_law_8 : decode cL_law 8 = .ok (.new 10, 3) := by decide +kernel
theorem dL_law_11 : decode cL_law 11 = .ok (.dup, 1) := by decide +kernel
theorem dL_law_12 : decode cL_law 12 = .ok (.invokespecial 12, 3) := by decide +kernel
theorem dL_law_15 : decode cL_law 15 = .ok (.astore_n 2, 1) := by decide +kernel
theorem dL_law_16 : decode cL_law 16 = .ok (.iconst 0, 1) := by decide +kernel
theorem dL_law_17 : decode cL_law 17 = .ok (.istore_n 3, 1) := by decide +kernel
theorem dL_law_18 : decode cL_law 18 = .ok (.iload_n 3, 1) := by decide +kernel
theorem dL_law_19 : decode cL_law 19 = .ok (.aload_n 0, 1) := by decide +kernel
theorem dL_law_20 : decode cL_law 20 = .ok (.arraylength, 1) := by decide +kernel
theorem dL_law_21 : decode cL_law 21 = .ok (.iconst 4, 1) := by decide +kernel
theorem dL_law_22 : decode cL_law 22 = .ok (.isub, 1) := by decide +kernel
theorem dL_law_23 : decode cL_law 23 = .ok (.if_icmp .gt 656, 3) := by decide +kernel
theorem dL_law_26 : decode cL_law 26 = .ok (.aload_n 0, 1) := by decide +kernel
theorem dL_law_27 : decode cL_law 27 = .ok (.iload_n 3, 1) := by decide +kernel
theorem dL_law_28 : decode cL_law 28 = .ok (.iaload, 1) := by decide +kernel
theorem dL_law_29 : decode cL_law 29 = .ok (.bipush 31, 2) := by decide +kernel
theorem dL_law_31 : decode cL_law 31 = .ok (.iand, 1) := by decide +kernel
theorem dL_law_32 : decode cL_law 32 = .ok (.tableswitch 641 0 21 #[104, 147, 180, 193, 226, 259, 272, 305, 338, 381, 404, 437, 450, 473, 496, 509, 532, 545, 558, 591, 604, 627], 104) := by decide +kernel
theorem dL_law_136 : decode cL_law 136 = .ok (.aload_n 1, 1) := by decide +kernel
theorem dL_law_137 : decode cL_law 137 = .ok (.aload_n 0, 1) := by decide +kernel
theorem dL_law_138 : decode cL_law 138 = .ok (.iload_n 3, 1) := by decide +kernel
theorem dL_law_139 : decode cL_law 139 = .ok (.iconst 1, 1) := by decide +kernel
theorem dL_law_140 : decode cL_law 140 = .ok (.iadd, 1) := by decide +kernel
theorem dL_law_141 : decode cL_law 141 = .ok (.iaload, 1) := by decide +kernel
theorem dL_law_142 : decode cL_law 142 = .ok (.aload_n 0, 1) := by decide +kernel
theorem dL_law_143 : decode cL_law 143 = .ok (.iload_n 3, 1) := by decide +kernel
theorem dL_law_144 : decode cL_law 144 = .ok (.iconst 2, 1) := by decide +kernel
theorem dL_law_145 : decode cL_law 145 = .ok (.iadd, 1) := by decide +kernel
theorem dL_law_146 : decode cL_law 146 = .ok (.iaload, 1) := by decide +kernel
theorem dL_law_147 : decode cL_law 147 = .ok (.aload_n 0, 1) := by decide +kernel
theorem dL_law_148 : decode cL_law 148 = .ok (.iload_n 3, 1) := by decide +kernel
theorem dL_law_149 : decode cL_law 149 = .ok (.iconst 3, 1) := by decide +kernel
theorem dL_law_150 : decode cL_law 150 = .ok (.iadd, 1) := by decide +kernel
theorem dL_law_151 : decode cL_law 151 = .ok (.iaload, 1) := by decide +kernel
theorem dL_law_152 : decode cL_law 152 = .ok (.invokevirtual 13, 3) := by decide +kernel
theorem dL_law_155 : decode cL_law 155 = .ok (.aload_n 2, 1) := by decide +kernel
theorem dL_law_156 : decode cL_law 156 = .ok (.aload_n 0, 1) := by decide +kernel
theorem dL_law_157 : decode cL_law 157 = .ok (.iload_n 3, 1) := by decide +kernel
theorem dL_law_158 : decode cL_law 158 = .ok (.iconst 1, 1) := by decide +kernel
theorem dL_law_159 : decode cL_law 159 = .ok (.iadd, 1) := by decide +kernel
theorem dL_law_160 : decode cL_law 160 = .ok (.iaload, 1) := by decide +kernel
theorem dL_law_161 : decode cL_law 161 = .ok (.aload_n 0, 1) := by decide +kernel
theorem dL_law_162 : decode cL_law 162 = .ok (.iload_n 3, 1) := by decide +kernel
theorem dL_law_163 : decode cL_law 163 = .ok (.iconst 2, 1) := by decide +kernel
theorem dL_law_164 : decode cL_law 164 = .ok (.iadd, 1) := by decide +kernel
theorem dL_law_165 : decode cL_law 165 = .ok (.iaload, 1) := by decide +kernel
theorem dL_law_166 : decode cL_law 166 = .ok (.aload_n 0, 1) := by decide +kernel
theorem dL_law_167 : decode cL_law 167 = .ok (.iload_n 3, 1) := by decide +kernel
theorem dL_law_168 : decode cL_law 168 = .ok (.iconst 3, 1) := by decide +kernel
theorem dL_law_169 : decode cL_law 169 = .ok (.iadd, 1) := by decide +kernel
theorem dL_law_170 : decode cL_law 170 = .ok (.iaload, 1) := by decide +kernel
theorem dL_law_171 : decode cL_law 171 = .ok (.invokevirtual 17, 3) := by decide +kernel
theorem dL_law_174 : decode cL_law 174 = .ok (.if_icmp .eq 499, 3) := by decide +kernel
theorem dL_law_177 : decode cL_law 177 = .ok (.iconst 0, 1) := by decide +kernel
theorem dL_law_178 : decode cL_law 178 = .ok (.ireturn, 1) := by decide +kernel
theorem dL_law_179 : decode cL_law 179 = .ok (.aload_n 1, 1) := by decide +kernel
theorem dL_law_180 : decode cL_law 180 = .ok (.aload_n 0, 1) := by decide +kernel
theorem dL_law_181 : decode cL_law 181 = .ok (.iload_n 3, 1) := by decide +kernel
theorem dL_law_182 : decode cL_law 182 = .ok (.iconst 1, 1) := by decide +kernel
theorem dL_law_183 : decode cL_law 183 = .ok (.iadd, 1) := by decide +kernel
theorem dL_law_184 : decode cL_law 184 = .ok (.iaload, 1) := by decide +kernel
theorem dL_law_185 : decode cL_law 185 = .ok (.aload_n 0, 1) := by decide +kernel
theorem dL_law_186 : decode cL_law 186 = .ok (.iload_n 3, 1) := by decide +kernel
theorem dL_law_187 : decode cL_law 187 = .ok (.iconst 2, 1) := by decide +kernel
theorem dL_law_188 : decode cL_law 188 = .ok (.iadd, 1) := by decide +kernel
theorem dL_law_189 : decode cL_law 189 = .ok (.iaload, 1) := by decide +kernel
theorem dL_law_190 : decode cL_law 190 = .ok (.invokevirtual 18, 3) := by decide +kernel
theorem dL_law_193 : decode cL_law 193 = .ok (.aload_n 2, 1) := by decide +kernel
theorem dL_law_194 : decode cL_law 194 = .ok (.aload_n 0, 1) := by decide +kernel
theorem dL_law_195 : decode cL_law 195 = .ok (.iload_n 3, 1) := by decide +kernel
theorem dL_law_196 : decode cL_law 196 = .ok (.iconst 1, 1) := by decide +kernel
theorem dL_law_197 : decode cL_law 197 = .ok (.iadd, 1) := by decide +kernel
theorem dL_law_198 : decode cL_law 198 = .ok (.iaload, 1) := by decide +kernel
theorem dL_law_199 : decode cL_law 199 = .ok (.aload_n 0, 1) := by decide +kernel
theorem dL_law_200 : decode cL_law 200 = .ok (.iload_n 3, 1) := by decide +kernel
theorem dL_law_201 : decode cL_law 201 = .ok (.iconst 2, 1) := by decide +kernel
theorem dL_law_202 : decode cL_law 202 = .ok (.iadd, 1) := by decide +kernel
theorem dL_law_203 : decode cL_law 203 = .ok (.iaload, 1) := by decide +kernel
theorem dL_law_204 : decode cL_law 204 = .ok (.invokevirtual 22, 3) := by decide +kernel
theorem dL_law_207 : decode cL_law 207 = .ok (.if_icmp .eq 466, 3) := by decide +kernel
theorem dL_law_210 : decode cL_law 210 = .ok (.iconst 0, 1) := by decide +kernel
theorem dL_law_211 : decode cL_law 211 = .ok (.ireturn, 1) := by decide +kernel
theorem dL_law_212 : decode cL_law 212 = .ok (.aload_n 1, 1) := by decide +kernel
theorem dL_law_213 : decode cL_law 213 = .ok (.invokevirtual 23, 3) := by decide +kernel
theorem dL_law_216 : decode cL_law 216 = .ok (.aload_n 2, 1) := by decide +kernel
theorem dL_law_217 : decode cL_law 217 = .ok (.invokevirtual 27, 3) := by decide +kernel
theorem dL_law_220 : decode cL_law 220 = .ok (.if_icmp .eq 453, 3) := by decide +kernel
theorem dL_law_223 : decode cL_law 223 = .ok (.iconst 0, 1) := by decide +kernel
theorem dL_law_224 : decode cL_law 224 = .ok (.ireturn, 1) := by decide +kernel
theorem dL_law_225 : decode cL_law 225 = .ok (.aload_n 1, 1) := by decide +kernel
theorem dL_law_226 : decode cL_law 226 = .ok (.aload_n 0, 1) := by decide +kernel
theorem dL_law_227 : decode cL_law 227 = .ok (.iload_n 3, 1) := by decide +kernel
theorem dL_law_228 : decode cL_law 228 = .ok (.iconst 1, 1) := by decide +kernel
theorem dL_law_229 : decode cL_law 229 = .ok (.iadd, 1) := by decide +kernel
theorem dL_law_230 : decode cL_law 230 = .ok (.iaload, 1) := by decide +kernel
theorem dL_law_231 : decode cL_law 231 = .ok (.aload_n 0, 1) := by decide +kernel
theorem dL_law_232 : decode cL_law 232 = .ok (.iload_n 3, 1) := by decide +kernel
theorem dL_law_233 : decode cL_law 233 = .ok (.iconst 2, 1) := by decide +kernel
theorem dL_law_234 : decode cL_law 234 = .ok (.iadd, 1) := by decide +kernel
theorem dL_law_235 : decode cL_law 235 = .ok (.iaload, 1) := by decide +kernel
theorem dL_law_236 : decode cL_law 236 = .ok (.invokevirtual 28, 3) := by decide +kernel
theorem dL_law_239 : decode cL_law 239 = .ok (.aload_n 2, 1) := by decide +kernel
theorem dL_law_240 : decode cL_law 240 = .ok (.aload_n 0, 1) := by decide +kernel
theorem dL_law_241 : decode cL_law 241 = .ok (.iload_n 3, 1) := by decide +kernel
theorem dL_law_242 : decode cL_law 242 = .ok (.iconst 1, 1) := by decide +kernel
theorem dL_law_243 : decode cL_law 243 = .ok (.iadd, 1) := by decide +kernel
theorem dL_law_244 : decode cL_law 244 = .ok (.iaload, 1) := by decide +kernel
theorem dL_law_245 : decode cL_law 245 = .ok (.aload_n 0, 1) := by decide +kernel
theorem dL_law_246 : decode cL_law 246 = .ok (.iload_n 3, 1) := by decide +kernel
theorem dL_law_247 : decode cL_law 247 = .ok (.iconst 2, 1) := by decide +kernel
theorem dL_law_248 : decode cL_law 248 = .ok (.iadd, 1) := by decide +kernel
theorem dL_law_249 : decode cL_law 249 = .ok (.iaload, 1) := by decide +kernel
theorem dL_law_250 : decode cL_law 250 = .ok (.invokevirtual 31, 3) := by decide +kernel
theorem dL_law_253 : decode cL_law 253 = .ok (.if_icmp .eq 420, 3) := by decide +kernel
theorem dL_law_256 : decode cL_law 256 = .ok (.iconst 0, 1) := by decide +kernel
theorem dL_law_257 : decode cL_law 257 = .ok (.ireturn, 1) := by decide +kernel
theorem dL_law_258 : decode cL_law 258 = .ok (.aload_n 1, 1) := by decide +kernel
theorem dL_law_259 : decode cL_law 259 = .ok (.aload_n 0, 1) := by decide +kernel
theorem dL_law_260 : decode cL_law 260 = .ok (.iload_n 3, 1) := by decide +kernel
theorem dL_law_261 : decode cL_law 261 = .ok (.iconst 1, 1) := by decide +kernel
theorem dL_law_262 : decode cL_law 262 = .ok (.iadd, 1) := by decide +kernel
theorem dL_law_263 : decode cL_law 263 = .ok (.iaload, 1) := by decide +kernel
theorem dL_law_264 : decode cL_law 264 = .ok (.aload_n 0, 1) := by decide +kernel
theorem dL_law_265 : decode cL_law 265 = .ok (.iload_n 3, 1) := by decide +kernel
theorem dL_law_266 : decode cL_law 266 = .ok (.iconst 2, 1) := by decide +kernel
theorem dL_law_267 : decode cL_law 267 = .ok (.iadd, 1) := by decide +kernel
theorem dL_law_268 : decode cL_law 268 = .ok (.iaload, 1) := by decide +kernel
theorem dL_law_269 : decode cL_law 269 = .ok (.invokevirtual 32, 3) := by decide +kernel
theorem dL_law_272 : decode cL_law 272 = .ok (.aload_n 2, 1) := by decide +kernel
theorem dL_law_273 : decode cL_law 273 = .ok (.aload_n 0, 1) := by decide +kernel
theorem dL_law_274 : decode cL_law 274 = .ok (.iload_n 3, 1) := by decide +kernel
theorem dL_law_275 : decode cL_law 275 = .ok (.iconst 1, 1) := by decide +kernel
theorem dL_law_276 : decode cL_law 276 = .ok (.iadd, 1) := by decide +kernel
theorem dL_law_277 : decode cL_law 277 = .ok (.iaload, 1) := by decide +kernel
theorem dL_law_278 : decode cL_law 278 = .ok (.aload_n 0, 1) := by decide +kernel
theorem dL_law_279 : decode cL_law 279 = .ok (.iload_n 3, 1) := by decide +kernel
theorem dL_law_280 : decode cL_law 280 = .ok (.iconst 2, 1) := by decide +kernel
theorem dL_law_281 : decode cL_law 281 = .ok (.iadd, 1) := by decide +kernel
theorem dL_law_282 : decode cL_law 282 = .ok (.iaload, 1) := by decide +kernel
theorem dL_law_283 : decode cL_law 283 = .ok (.invokevirtual 35, 3) := by decide +kernel
theorem dL_law_286 : decode cL_law 286 = .ok (.if_icmp .eq 387, 3) := by decide +kernel
theorem dL_law_289 : decode cL_law 289 = .ok (.iconst 0, 1) := by decide +kernel
theorem dL_law_290 : decode cL_law 290 = .ok (.ireturn, 1) := by decide +kernel
theorem dL_law_291 : decode cL_law 291 = .ok (.aload_n 1, 1) := by decide +kernel
theorem dL_law_292 : decode cL_law 292 = .ok (.invokevirtual 36, 3) := by decide +kernel
theorem dL_law_295 : decode cL_law 295 = .ok (.aload_n 2, 1) := by decide +kernel
theorem dL_law_296 : decode cL_law 296 = .ok (.invokevirtual 39, 3) := by decide +kernel
theorem dL_law_299 : decode cL_law 299 = .ok (.if_icmp .eq 374, 3) := by decide +kernel
theorem dL_law_302 : decode cL_law 302 = .ok (.iconst 0, 1) := by decide +kernel
theorem dL_law_303 : decode cL_law 303 = .ok (.ireturn, 1) := by decide +kernel
theorem dL_law_304 : decode cL_law 304 = .ok (.aload_n 1, 1) := by decide +kernel
theorem dL_law_305 : decode cL_law 305 = .ok (.aload_n 0, 1) := by decide +kernel
theorem dL_law_306 : decode cL_law 306 = .ok (.iload_n 3, 1) := by decide +kernel
theorem dL_law_307 : decode cL_law 307 = .ok (.iconst 1, 1) := by decide +kernel
theorem dL_law_308 : decode cL_law 308 = .ok (.iadd, 1) := by decide +kernel
theorem dL_law_309 : decode cL_law 309 = .ok (.iaload, 1) := by decide +kernel
theorem dL_law_310 : decode cL_law 310 = .ok (.aload_n 0, 1) := by decide +kernel
theorem dL_law_311 : decode cL_law 311 = .ok (.iload_n 3, 1) := by decide +kernel
theorem dL_law_312 : decode cL_law 312 = .ok (.iconst 2, 1) := by decide +kernel
theorem dL_law_313 : decode cL_law 313 = .ok (.iadd, 1) := by decide +kernel
theorem dL_law_314 : decode cL_law 314 = .ok (.iaload, 1) := by decide +kernel
theorem dL_law_315 : decode cL_law 315 = .ok (.invokevirtual 40, 3) := by decide +kernel
theorem dL_law_318 : decode cL_law 318 = .ok (.aload_n 2, 1) := by decide +kernel
theorem dL_law_319 : decode cL_law 319 = .ok (.aload_n 0, 1) := by decide +kernel
theorem dL_law_320 : decode cL_law 320 = .ok (.iload_n 3, 1) := by decide +kernel
theorem dL_law_321 : decode cL_law 321 = .ok (.iconst 1, 1) := by decide +kernel
theorem dL_law_322 : decode cL_law 322 = .ok (.iadd, 1) := by decide +kernel
theorem dL_law_323 : decode cL_law 323 = .ok (.iaload, 1) := by decide +kernel
theorem dL_law_324 : decode cL_law 324 = .ok (.aload_n 0, 1) := by decide +kernel
theorem dL_law_325 : decode cL_law 325 = .ok (.iload_n 3, 1) := by decide +kernel
theorem dL_law_326 : decode cL_law 326 = .ok (.iconst 2, 1) := by decide +kernel
theorem dL_law_327 : decode cL_law 327 = .ok (.iadd, 1) := by decide +kernel
theorem dL_law_328 : decode cL_law 328 = .ok (.iaload, 1) := by decide +kernel
theorem dL_law_329 : decode cL_law 329 = .ok (.invokevirtual 43, 3) := by decide +kernel
theorem dL_law_332 : decode cL_law 332 = .ok (.if_icmp .eq 341, 3) := by decide +kernel
theorem dL_law_335 : decode cL_law 335 = .ok (.iconst 0, 1) := by decide +kernel
theorem dL_law_336 : decode cL_law 336 = .ok (.ireturn, 1) := by decide +kernel
theorem dL_law_337 : decode cL_law 337 = .ok (.aload_n 1, 1) := by decide +kernel
theorem dL_law_338 : decode cL_law 338 = .ok (.aload_n 0, 1) := by decide +kernel
theorem dL_law_339 : decode cL_law 339 = .ok (.iload_n 3, 1) := by decide +kernel
theorem dL_law_340 : decode cL_law 340 = .ok (.iconst 1, 1) := by decide +kernel
theorem dL_law_341 : decode cL_law 341 = .ok (.iadd, 1) := by decide +kernel
theorem dL_law_342 : decode cL_law 342 = .ok (.iaload, 1) := by decide +kernel
theorem dL_law_343 : decode cL_law 343 = .ok (.aload_n 0, 1) := by decide +kernel
theorem dL_law_344 : decode cL_law 344 = .ok (.iload_n 3, 1) := by decide +kernel
theorem dL_law_345 : decode cL_law 345 = .ok (.iconst 2, 1) := by decide +kernel
theorem dL_law_346 : decode cL_law 346 = .ok (.iadd, 1) := by decide +kernel
theorem dL_law_347 : decode cL_law 347 = .ok (.iaload, 1) := by decide +kernel
theorem dL_law_348 : decode cL_law 348 = .ok (.invokevirtual 44, 3) := by decide +kernel
theorem dL_law_351 : decode cL_law 351 = .ok (.aload_n 2, 1) := by decide +kernel
theorem dL_law_352 : decode cL_law 352 = .ok (.aload_n 0, 1) := by decide +kernel
theorem dL_law_353 : decode cL_law 353 = .ok (.iload_n 3, 1) := by decide +kernel
theorem dL_law_354 : decode cL_law 354 = .ok (.iconst 1, 1) := by decide +kernel
theorem dL_law_355 : decode cL_law 355 = .ok (.iadd, 1) := by decide +kernel
theorem dL_law_356 : decode cL_law 356 = .ok (.iaload, 1) := by decide +kernel
theorem dL_law_357 : decode cL_law 357 = .ok (.aload_n 0, 1) := by decide +kernel
theorem dL_law_358 : decode cL_law 358 = .ok (.iload_n 3, 1) := by decide +kernel
theorem dL_law_359 : decode cL_law 359 = .ok (.iconst 2, 1) := by decide +kernel
theorem dL_law_360 : decode cL_law 360 = .ok (.iadd, 1) := by decide +kernel
theorem dL_law_361 : decode cL_law 361 = .ok (.iaload, 1) := by decide +kernel
theorem dL_law_362 : decode cL_law 362 = .ok (.invokevirtual 47, 3) := by decide +kernel
theorem dL_law_365 : decode cL_law 365 = .ok (.if_icmp .eq 308, 3) := by decide +kernel
theorem dL_law_368 : decode cL_law 368 = .ok (.iconst 0, 1) := by decide +kernel
theorem dL_law_369 : decode cL_law 369 = .ok (.ireturn, 1) := by decide +kernel
theorem dL_law_370 : decode cL_law 370 = .ok (.aload_n 1, 1) := by decide +kernel
theorem dL_law_371 : decode cL_law 371 = .ok (.aload_n 0, 1) := by decide +kernel
theorem dL_law_372 : decode cL_law 372 = .ok (.iload_n 3, 1) := by decide +kernel
theorem dL_law_373 : decode cL_law 373 = .ok (.iconst 1, 1) := by decide +kernel
theorem dL_law_374 : decode cL_law 374 = .ok (.iadd, 1) := by decide +kernel
theorem dL_law_375 : decode cL_law 375 = .ok (.iaload, 1) := by decide +kernel
theorem dL_law_376 : decode cL_law 376 = .ok (.aload_n 0, 1) := by decide +kernel
theorem dL_law_377 : decode cL_law 377 = .ok (.iload_n 3, 1) := by decide +kernel
theorem dL_law_378 : decode cL_law 378 = .ok (.iconst 2, 1) := by decide +kernel
theorem dL_law_379 : decode cL_law 379 = .ok (.iadd, 1) := by decide +kernel
theorem dL_law_380 : decode cL_law 380 = .ok (.iaload, 1) := by decide +kernel
theorem dL_law_381 : decode cL_law 381 = .ok (.aload_n 0, 1) := by decide +kernel
theorem dL_law_382 : decode cL_law 382 = .ok (.iload_n 3, 1) := by decide +kernel
theorem dL_law_383 : decode cL_law 383 = .ok (.iconst 3, 1) := by decide +kernel
theorem dL_law_384 : decode cL_law 384 = .ok (.iadd, 1) := by decide +kernel
theorem dL_law_385 : decode cL_law 385 = .ok (.iaload, 1) := by decide +kernel
theorem dL_law_386 : decode cL_law 386 = .ok (.invokevirtual 48, 3) := by decide +kernel
theorem dL_law_389 : decode cL_law 389 = .ok (.aload_n 2, 1) := by decide +kernel
theorem dL_law_390 : decode cL_law 390 = .ok (.aload_n 0, 1) := by decide +kernel
theorem dL_law_391 : decode cL_law 391 = .ok (.iload_n 3, 1) := by decide +kernel
theorem dL_law_392 : decode cL_law 392 = .ok (.iconst 1, 1) := by decide +kernel
theorem dL_law_393 : decode cL_law 393 = .ok (.iadd, 1) := by decide +kernel
theorem dL_law_394 : decode cL_law 394 = .ok (.iaload, 1) := by decide +kernel
theorem dL_law_395 : decode cL_law 395 = .ok (.aload_n 0, 1) := by decide +kernel
theorem dL_law_396 : decode cL_law 396 = .ok (.iload_n 3, 1) := by decide +kernel
theorem dL_law_397 : decode cL_law 397 = .ok (.iconst 2, 1) := by decide +kernel
theorem dL_law_398 : decode cL_law 398 = .ok (.iadd, 1) := by decide +kernel
theorem dL_law_399 : decode cL_law 399 = .ok (.iaload, 1) := by decide +kernel
theorem dL_law_400 : decode cL_law 400 = .ok (.aload_n 0, 1) := by decide +kernel
theorem dL_law_401 : decode cL_law 401 = .ok (.iload_n 3, 1) := by decide +kernel
theorem dL_law_402 : decode cL_law 402 = .ok (.iconst 3, 1) := by decide +kernel
theorem dL_law_403 : decode cL_law 403 = .ok (.iadd, 1) := by decide +kernel
theorem dL_law_404 : decode cL_law 404 = .ok (.iaload, 1) := by decide +kernel
theorem dL_law_405 : decode cL_law 405 = .ok (.invokevirtual 51, 3) := by decide +kernel
theorem dL_law_408 : decode cL_law 408 = .ok (.if_icmp .eq 265, 3) := by decide +kernel
theorem dL_law_411 : decode cL_law 411 = .ok (.iconst 0, 1) := by decide +kernel
theorem dL_law_412 : decode cL_law 412 = .ok (.ireturn, 1) := by decide +kernel
theorem dL_law_413 : decode cL_law 413 = .ok (.aload_n 1, 1) := by decide +kernel
theorem dL_law_414 : decode cL_law 414 = .ok (.aload_n 0, 1) := by decide +kernel
theorem dL_law_415 : decode cL_law 415 = .ok (.iload_n 3, 1) := by decide +kernel
theorem dL_law_416 : decode cL_law 416 = .ok (.iconst 1, 1) := by decide +kernel
theorem dL_law_417 : decode cL_law 417 = .ok (.iadd, 1) := by decide +kernel
theorem dL_law_418 : decode cL_law 418 = .ok (.iaload, 1) := by decide +kernel
theorem dL_law_419 : decode cL_law 419 = .ok (.invokevirtual 52, 3) := by decide +kernel
theorem dL_law_422 : decode cL_law 422 = .ok (.aload_n 2, 1) := by decide +kernel
theorem dL_law_423 : decode cL_law 423 = .ok (.aload_n 0, 1) := by decide +kernel
theorem dL_law_424 : decode cL_law 424 = .ok (.iload_n 3, 1) := by decide +kernel
theorem dL_law_425 : decode cL_law 425 = .ok (.iconst 1, 1) := by decide +kernel
theorem dL_law_426 : decode cL_law 426 = .ok (.iadd, 1) := by decide +kernel
theorem dL_law_427 : decode cL_law 427 = .ok (.iaload, 1) := by decide +kernel
theorem dL_law_428 : decode cL_law 428 = .ok (.invokevirtual 56, 3) := by decide +kernel
theorem dL_law_431 : decode cL_law 431 = .ok (.if_icmp .eq 242, 3) := by decide +kernel
theorem dL_law_434 : decode cL_law 434 = .ok (.iconst 0, 1) := by decide +kernel
theorem dL_law_435 : decode cL_law 435 = .ok (.ireturn, 1) := by decide +kernel
theorem dL_law_436 : decode cL_law 436 = .ok (.aload_n 1, 1) := by decide +kernel
theorem dL_law_437 : decode cL_law 437 = .ok (.aload_n 0, 1) := by decide +kernel
theorem dL_law_438 : decode cL_law 438 = .ok (.iload_n 3, 1) := by decide +kernel
theorem dL_law_439 : decode cL_law 439 = .ok (.iconst 1, 1) := by decide +kernel
theorem dL_law_440 : decode cL_law 440 = .ok (.iadd, 1) := by decide +kernel
theorem dL_law_441 : decode cL_law 441 = .ok (.iaload, 1) := by decide +kernel
theorem dL_law_442 : decode cL_law 442 = .ok (.aload_n 0, 1) := by decide +kernel
theorem dL_law_443 : decode cL_law 443 = .ok (.iload_n 3, 1) := by decide +kernel
theorem dL_law_444 : decode cL_law 444 = .ok (.iconst 2, 1) := by decide +kernel
theorem dL_law_445 : decode cL_law 445 = .ok (.iadd, 1) := by decide +kernel
theorem dL_law_446 : decode cL_law 446 = .ok (.iaload, 1) := by decide +kernel
theorem dL_law_447 : decode cL_law 447 = .ok (.invokevirtual 57, 3) := by decide +kernel
theorem dL_law_450 : decode cL_law 450 = .ok (.aload_n 2, 1) := by decide +kernel
theorem dL_law_451 : decode cL_law 451 = .ok (.aload_n 0, 1) := by decide +kernel
theorem dL_law_452 : decode cL_law 452 = .ok (.iload_n 3, 1) := by decide +kernel
theorem dL_law_453 : decode cL_law 453 = .ok (.iconst 1, 1) := by decide +kernel
theorem dL_law_454 : decode cL_law 454 = .ok (.iadd, 1) := by decide +kernel
theorem dL_law_455 : decode cL_law 455 = .ok (.iaload, 1) := by decide +kernel
theorem dL_law_456 : decode cL_law 456 = .ok (.aload_n 0, 1) := by decide +kernel
theorem dL_law_457 : decode cL_law 457 = .ok (.iload_n 3, 1) := by decide +kernel
theorem dL_law_458 : decode cL_law 458 = .ok (.iconst 2, 1) := by decide +kernel
theorem dL_law_459 : decode cL_law 459 = .ok (.iadd, 1) := by decide +kernel
theorem dL_law_460 : decode cL_law 460 = .ok (.iaload, 1) := by decide +kernel
theorem dL_law_461 : decode cL_law 461 = .ok (.invokevirtual 60, 3) := by decide +kernel
theorem dL_law_464 : decode cL_law 464 = .ok (.if_icmp .eq 209, 3) := by decide +kernel
theorem dL_law_467 : decode cL_law 467 = .ok (.iconst 0, 1) := by decide +kernel
theorem dL_law_468 : decode cL_law 468 = .ok (.ireturn, 1) := by decide +kernel
theorem dL_law_469 : decode cL_law 469 = .ok (.aload_n 1, 1) := by decide +kernel
theorem dL_law_470 : decode cL_law 470 = .ok (.invokevirtual 61, 3) := by decide +kernel
theorem dL_law_473 : decode cL_law 473 = .ok (.aload_n 2, 1) := by decide +kernel
theorem dL_law_474 : decode cL_law 474 = .ok (.invokevirtual 64, 3) := by decide +kernel
theorem dL_law_477 : decode cL_law 477 = .ok (.if_icmp .eq 196, 3) := by decide +kernel
theorem dL_law_480 : decode cL_law 480 = .ok (.iconst 0, 1) := by decide +kernel
theorem dL_law_481 : decode cL_law 481 = .ok (.ireturn, 1) := by decide +kernel
theorem dL_law_482 : decode cL_law 482 = .ok (.aload_n 1, 1) := by decide +kernel
theorem dL_law_483 : decode cL_law 483 = .ok (.aload_n 0, 1) := by decide +kernel
theorem dL_law_484 : decode cL_law 484 = .ok (.iload_n 3, 1) := by decide +kernel
theorem dL_law_485 : decode cL_law 485 = .ok (.iconst 1, 1) := by decide +kernel
theorem dL_law_486 : decode cL_law 486 = .ok (.iadd, 1) := by decide +kernel
theorem dL_law_487 : decode cL_law 487 = .ok (.iaload, 1) := by decide +kernel
theorem dL_law_488 : decode cL_law 488 = .ok (.invokevirtual 65, 3) := by decide +kernel
theorem dL_law_491 : decode cL_law 491 = .ok (.aload_n 2, 1) := by decide +kernel
theorem dL_law_492 : decode cL_law 492 = .ok (.aload_n 0, 1) := by decide +kernel
theorem dL_law_493 : decode cL_law 493 = .ok (.iload_n 3, 1) := by decide +kernel
theorem dL_law_494 : decode cL_law 494 = .ok (.iconst 1, 1) := by decide +kernel
theorem dL_law_495 : decode cL_law 495 = .ok (.iadd, 1) := by decide +kernel
theorem dL_law_496 : decode cL_law 496 = .ok (.iaload, 1) := by decide +kernel
theorem dL_law_497 : decode cL_law 497 = .ok (.invokevirtual 68, 3) := by decide +kernel
theorem dL_law_500 : decode cL_law 500 = .ok (.if_icmp .eq 173, 3) := by decide +kernel
theorem dL_law_503 : decode cL_law 503 = .ok (.iconst 0, 1) := by decide +kernel
theorem dL_law_504 : decode cL_law 504 = .ok (.ireturn, 1) := by decide +kernel
theorem dL_law_505 : decode cL_law 505 = .ok (.aload_n 1, 1) := by decide +kernel
theorem dL_law_506 : decode cL_law 506 = .ok (.aload_n 0, 1) := by decide +kernel
theorem dL_law_507 : decode cL_law 507 = .ok (.iload_n 3, 1) := by decide +kernel
theorem dL_law_508 : decode cL_law 508 = .ok (.iconst 1, 1) := by decide +kernel
theorem dL_law_509 : decode cL_law 509 = .ok (.iadd, 1) := by decide +kernel
theorem dL_law_510 : decode cL_law 510 = .ok (.iaload, 1) := by decide +kernel
theorem dL_law_511 : decode cL_law 511 = .ok (.invokevirtual 69, 3) := by decide +kernel
theorem dL_law_514 : decode cL_law 514 = .ok (.aload_n 2, 1) := by decide +kernel
theorem dL_law_515 : decode cL_law 515 = .ok (.aload_n 0, 1) := by decide +kernel
theorem dL_law_516 : decode cL_law 516 = .ok (.iload_n 3, 1) := by decide +kernel
theorem dL_law_517 : decode cL_law 517 = .ok (.iconst 1, 1) := by decide +kernel
theorem dL_law_518 : decode cL_law 518 = .ok (.iadd, 1) := by decide +kernel
theorem dL_law_519 : decode cL_law 519 = .ok (.iaload, 1) := by decide +kernel
theorem dL_law_520 : decode cL_law 520 = .ok (.invokevirtual 72, 3) := by decide +kernel
theorem dL_law_523 : decode cL_law 523 = .ok (.if_icmp .eq 150, 3) := by decide +kernel
theorem dL_law_526 : decode cL_law 526 = .ok (.iconst 0, 1) := by decide +kernel
theorem dL_law_527 : decode cL_law 527 = .ok (.ireturn, 1) := by decide +kernel
theorem dL_law_528 : decode cL_law 528 = .ok (.aload_n 1, 1) := by decide +kernel
theorem dL_law_529 : decode cL_law 529 = .ok (.invokevirtual 73, 3) := by decide +kernel
theorem dL_law_532 : decode cL_law 532 = .ok (.aload_n 2, 1) := by decide +kernel
theorem dL_law_533 : decode cL_law 533 = .ok (.invokevirtual 76, 3) := by decide +kernel
theorem dL_law_536 : decode cL_law 536 = .ok (.if_icmp .eq 137, 3) := by decide +kernel
theorem dL_law_539 : decode cL_law 539 = .ok (.iconst 0, 1) := by decide +kernel
theorem dL_law_540 : decode cL_law 540 = .ok (.ireturn, 1) := by decide +kernel
theorem dL_law_541 : decode cL_law 541 = .ok (.aload_n 1, 1) := by decide +kernel
theorem dL_law_542 : decode cL_law 542 = .ok (.aload_n 0, 1) := by decide +kernel
theorem dL_law_543 : decode cL_law 543 = .ok (.iload_n 3, 1) := by decide +kernel
theorem dL_law_544 : decode cL_law 544 = .ok (.iconst 1, 1) := by decide +kernel
theorem dL_law_545 : decode cL_law 545 = .ok (.iadd, 1) := by decide +kernel
theorem dL_law_546 : decode cL_law 546 = .ok (.iaload, 1) := by decide +kernel
theorem dL_law_547 : decode cL_law 547 = .ok (.invokevirtual 77, 3) := by decide +kernel
theorem dL_law_550 : decode cL_law 550 = .ok (.aload_n 2, 1) := by decide +kernel
theorem dL_law_551 : decode cL_law 551 = .ok (.aload_n 0, 1) := by decide +kernel
theorem dL_law_552 : decode cL_law 552 = .ok (.iload_n 3, 1) := by decide +kernel
theorem dL_law_553 : decode cL_law 553 = .ok (.iconst 1, 1) := by decide +kernel
theorem dL_law_554 : decode cL_law 554 = .ok (.iadd, 1) := by decide +kernel
theorem dL_law_555 : decode cL_law 555 = .ok (.iaload, 1) := by decide +kernel
theorem dL_law_556 : decode cL_law 556 = .ok (.invokevirtual 80, 3) := by decide +kernel
theorem dL_law_559 : decode cL_law 559 = .ok (.if_icmp .eq 114, 3) := by decide +kernel
theorem dL_law_562 : decode cL_law 562 = .ok (.iconst 0, 1) := by decide +kernel
theorem dL_law_563 : decode cL_law 563 = .ok (.ireturn, 1) := by decide +kernel
theorem dL_law_564 : decode cL_law 564 = .ok (.aload_n 1, 1) := by decide +kernel
theorem dL_law_565 : decode cL_law 565 = .ok (.invokevirtual 81, 3) := by decide +kernel
theorem dL_law_568 : decode cL_law 568 = .ok (.aload_n 2, 1) := by decide +kernel
theorem dL_law_569 : decode cL_law 569 = .ok (.invokevirtual 84, 3) := by decide +kernel
theorem dL_law_572 : decode cL_law 572 = .ok (.if_icmp .eq 101, 3) := by decide +kernel
theorem dL_law_575 : decode cL_law 575 = .ok (.iconst 0, 1) := by decide +kernel
theorem dL_law_576 : decode cL_law 576 = .ok (.ireturn, 1) := by decide +kernel
theorem dL_law_577 : decode cL_law 577 = .ok (.aload_n 1, 1) := by decide +kernel
theorem dL_law_578 : decode cL_law 578 = .ok (.invokevirtual 85, 3) := by decide +kernel
theorem dL_law_581 : decode cL_law 581 = .ok (.aload_n 2, 1) := by decide +kernel
theorem dL_law_582 : decode cL_law 582 = .ok (.invokevirtual 88, 3) := by decide +kernel
theorem dL_law_585 : decode cL_law 585 = .ok (.if_icmp .eq 88, 3) := by decide +kernel
theorem dL_law_588 : decode cL_law 588 = .ok (.iconst 0, 1) := by decide +kernel
theorem dL_law_589 : decode cL_law 589 = .ok (.ireturn, 1) := by decide +kernel
theorem dL_law_590 : decode cL_law 590 = .ok (.aload_n 1, 1) := by decide +kernel
theorem dL_law_591 : decode cL_law 591 = .ok (.aload_n 0, 1) := by decide +kernel
theorem dL_law_592 : decode cL_law 592 = .ok (.iload_n 3, 1) := by decide +kernel
theorem dL_law_593 : decode cL_law 593 = .ok (.iconst 1, 1) := by decide +kernel
theorem dL_law_594 : decode cL_law 594 = .ok (.iadd, 1) := by decide +kernel
theorem dL_law_595 : decode cL_law 595 = .ok (.iaload, 1) := by decide +kernel
theorem dL_law_596 : decode cL_law 596 = .ok (.aload_n 0, 1) := by decide +kernel
theorem dL_law_597 : decode cL_law 597 = .ok (.iload_n 3, 1) := by decide +kernel
theorem dL_law_598 : decode cL_law 598 = .ok (.iconst 2, 1) := by decide +kernel
theorem dL_law_599 : decode cL_law 599 = .ok (.iadd, 1) := by decide +kernel
theorem dL_law_600 : decode cL_law 600 = .ok (.iaload, 1) := by decide +kernel
theorem dL_law_601 : decode cL_law 601 = .ok (.invokevirtual 89, 3) := by decide +kernel
theorem dL_law_604 : decode cL_law 604 = .ok (.aload_n 2, 1) := by decide +kernel
theorem dL_law_605 : decode cL_law 605 = .ok (.aload_n 0, 1) := by decide +kernel
theorem dL_law_606 : decode cL_law 606 = .ok (.iload_n 3, 1) := by decide +kernel
theorem dL_law_607 : decode cL_law 607 = .ok (.iconst 1, 1) := by decide +kernel
theorem dL_law_608 : decode cL_law 608 = .ok (.iadd, 1) := by decide +kernel
theorem dL_law_609 : decode cL_law 609 = .ok (.iaload, 1) := by decide +kernel
theorem dL_law_610 : decode cL_law 610 = .ok (.aload_n 0, 1) := by decide +kernel
theorem dL_law_611 : decode cL_law 611 = .ok (.iload_n 3, 1) := by decide +kernel
theorem dL_law_612 : decode cL_law 612 = .ok (.iconst 2, 1) := by decide +kernel
theorem dL_law_613 : decode cL_law 613 = .ok (.iadd, 1) := by decide +kernel
theorem dL_law_614 : decode cL_law 614 = .ok (.iaload, 1) := by decide +kernel
theorem dL_law_615 : decode cL_law 615 = .ok (.invokevirtual 92, 3) := by decide +kernel
theorem dL_law_618 : decode cL_law 618 = .ok (.if_icmp .eq 55, 3) := by decide +kernel
theorem dL_law_621 : decode cL_law 621 = .ok (.iconst 0, 1) := by decide +kernel
theorem dL_law_622 : decode cL_law 622 = .ok (.ireturn, 1) := by decide +kernel
theorem dL_law_623 : decode cL_law 623 = .ok (.aload_n 1, 1) := by decide +kernel
theorem dL_law_624 : decode cL_law 624 = .ok (.invokevirtual 93, 3) := by decide +kernel
theorem dL_law_627 : decode cL_law 627 = .ok (.aload_n 2, 1) := by decide +kernel
theorem dL_law_628 : decode cL_law 628 = .ok (.invokevirtual 96, 3) := by decide +kernel
theorem dL_law_631 : decode cL_law 631 = .ok (.if_icmp .eq 42, 3) := by decide +kernel
theorem dL_law_634 : decode cL_law 634 = .ok (.iconst 0, 1) := by decide +kernel
theorem dL_law_635 : decode cL_law 635 = .ok (.ireturn, 1) := by decide +kernel
theorem dL_law_636 : decode cL_law 636 = .ok (.aload_n 1, 1) := by decide +kernel
theorem dL_law_637 : decode cL_law 637 = .ok (.aload_n 0, 1) := by decide +kernel
theorem dL_law_638 : decode cL_law 638 = .ok (.iload_n 3, 1) := by decide +kernel
theorem dL_law_639 : decode cL_law 639 = .ok (.iconst 1, 1) := by decide +kernel
theorem dL_law_640 : decode cL_law 640 = .ok (.iadd, 1) := by decide +kernel
theorem dL_law_641 : decode cL_law 641 = .ok (.iaload, 1) := by decide +kernel
theorem dL_law_642 : decode cL_law 642 = .ok (.invokevirtual 97, 3) := by decide +kernel
theorem dL_law_645 : decode cL_law 645 = .ok (.aload_n 2, 1) := by decide +kernel
theorem dL_law_646 : decode cL_law 646 = .ok (.aload_n 0, 1) := by decide +kernel
theorem dL_law_647 : decode cL_law 647 = .ok (.iload_n 3, 1) := by decide +kernel
theorem dL_law_648 : decode cL_law 648 = .ok (.iconst 1, 1) := by decide +kernel
theorem dL_law_649 : decode cL_law 649 = .ok (.iadd, 1) := by decide +kernel
theorem dL_law_650 : decode cL_law 650 = .ok (.iaload, 1) := by decide +kernel
theorem dL_law_651 : decode cL_law 651 = .ok (.invokevirtual 100, 3) := by decide +kernel
theorem dL_law_654 : decode cL_law 654 = .ok (.if_icmp .eq 19, 3) := by decide +kernel
theorem dL_law_657 : decode cL_law 657 = .ok (.iconst 0, 1) := by decide +kernel
theorem dL_law_658 : decode cL_law 658 = .ok (.ireturn, 1) := by decide +kernel
theorem dL_law_659 : decode cL_law 659 = .ok (.aload_n 1, 1) := by decide +kernel
theorem dL_law_660 : decode cL_law 660 = .ok (.invokevirtual 101, 3) := by decide +kernel
theorem dL_law_663 : decode cL_law 663 = .ok (.aload_n 2, 1) := by decide +kernel
theorem dL_law_664 : decode cL_law 664 = .ok (.invokevirtual 105, 3) := by decide +kernel
theorem dL_law_667 : decode cL_law 667 = .ok (.lcmp, 1) := by decide +kernel
theorem dL_law_668 : decode cL_law 668 = .ok (.ifCond .eq 5, 3) := by decide +kernel
theorem dL_law_671 : decode cL_law 671 = .ok (.iconst 0, 1) := by decide +kernel
theorem dL_law_672 : decode cL_law 672 = .ok (.ireturn, 1) := by decide +kernel
theorem dL_law_673 : decode cL_law 673 = .ok (.iinc 3 4, 3) := by decide +kernel
theorem dL_law_676 : decode cL_law 676 = .ok (.goto (-658), 3) := by decide +kernel
theorem dL_law_679 : decode cL_law 679 = .ok (.iconst 1, 1) := by decide +kernel
theorem dL_law_680 : decode cL_law 680 = .ok (.ireturn, 1) := by decide +kernel
end
section
/-! ===== 04: the layer: values, heaps by numbers, what the heap holds, contracts ===== -/
abbrev tmV : Type := Int ⊕ (Int64 ⊕ Nat)
abbrev tmS : Type := Nat × (Nat → Nat) × (Nat → Nat) × (Nat → Nat → Option Nat)
abbrev tmH : Type := tmS × (Nat → Nat → Int) × (Nat → Nat → Int64)
abbrev tmG : Type := va_G × ClassId × ClassId × ClassId × ClassId
abbrev tmMS : Type := String × ByteArray × Nat × Option FieldType × Bool
abbrev tI (a : Int) : tmV := .inl a
abbrev tL (a : Int64) : tmV := .inr (.inl a)
abbrev tR (a : Nat) : tmV := .inr (.inr a)
/-- the words that a contract of mine rests on -/
def tmT : List Cond := lw_tbl.filter goodWord
theorem tmT_in {w : Cond} (h : w ∈ tables_1) (hg : goodWord w = true) : w ∈ tmT := List.mem_filter.mpr ⟨List.mem_append_right _ h, hg⟩
theorem tmT_sel {q : MethodName × Nat} (h : q ∈ lw_privs) : Cond.selects q.1.cls q.1 q.1 ∈ tmT := by
  refine List.mem_filter.mpr ⟨List.mem_append_left _ (List.mem_map.mpr ⟨q, h, rfl⟩), ?_⟩
  rfl
theorem tmT_good : GoodIn tmT tmT := fun w h => ⟨h, good_of_word (List.mem_filter.mp h).2⟩
def tmt (b0 : Nat) : tmV → Value
  | .inl a => .int (Int32.ofInt a)
  | .inr (.inl x) => .long x
  | .inr (.inr i) => .ref (b0 + i)
/-- the kinds of the fields: 0 int, 1 reference, 2 long, 3 boolean -/
def tmft : Nat → List Nat
  | 0 => [1, 1, 1]
  | 1 => [1, 0]
  | 2 => [0, 0, 1, 1, 1, 1]
  | 3 => [1, 1, 1, 1, 1, 1, 1, 1]
  | 4 => [1, 1, 1, 0, 1, 1, 1]
  | 5 => [1, 1, 0, 1, 2, 1, 1, 1]
  | 6 => [1, 1, 0, 1]
  | 7 => [1, 0, 0]
  | 8 => [0, 1, 1, 1, 1, 1]
  | 9 => [1, 0, 1, 1, 1, 1, 1, 0, 0]
  | 10 => [1, 1, 0, 0]
  | 11 => [1, 1, 1, 1, 1, 1, 1, 1, 1, 0, 0]
  | 12 => [1, 1, 0, 1, 1, 1, 1, 1, 1, 0, 0, 1, 0, 1, 0, 0, 0, 1, 1, 1, 3, 1, 1, 1, 1, 1, 1, 1, 1, 1, 1, 0, 3]
  | _ => []
def tmfv (b0 : Nat) (h : tmH) (i ty k : Nat) : Value :=
  if ty = 1 then va_rf ((h.1.2.2.2 i k).map (b0 + ·)) else if ty = 2 then .long (h.2.2 i k) else .int (Int32.ofInt (h.2.1 i k))
def tmfs (b0 : Nat) (h : tmH) (i : Nat) : List Nat → Nat → List Value
  | [], _ => []
  | ty :: r, k => tmfv b0 h i ty k :: tmfs b0 h i r (k + 1)
def tmc (b0 : Nat) (G : tmG) (h : tmH) (i : Nat) : va_E :=
  if h.1.2.1 i = 13 then .inl (G.2.1, h.1.2.2.1 i, .inl (fun j => Int32.ofInt (h.2.1 i j)))
  else if h.1.2.1 i = 14 then .inl (G.2.2.1, h.1.2.2.1 i, .inr (.inl (h.2.2 i)))
  else if h.1.2.1 i = 15 then .inl (G.2.2.2.1, h.1.2.2.1 i, .inr (.inr (.inr (.inr (fun j => (h.1.2.2.2 i j).map (b0 + ·))))))
  else if h.1.2.1 i = 16 then .inl (G.2.2.2.2, h.1.2.2.1 i, .inr (.inr (.inr (.inr (fun j => (h.1.2.2.2 i j).map (b0 + ·))))))
  else .inr (h.1.2.1 i, tmfs b0 h i (tmft (h.1.2.1 i)) 0)
def tmw (b0 : Nat) (G : tmG) (h : tmH) : va_W := (List.range h.1.1).map fun i => (b0 + i, tmc b0 G h i)
def tmty (G : tmG) : List (ClassId × FieldType) := [(G.2.1, .int), (G.2.2.1, .long), (G.2.2.2.1, .object RX2), (G.2.2.2.2, .object RX6)]
abbrev inR (a : Int) : Prop := -2147483648 ≤ a ∧ a ≤ 2147483647
/-- all ints are told in their range -/
def tmIR (I : Nat → Nat → Int) : Prop := ∀ i k, inR (I i k)
def tmR (b0 : Nat) (G : tmG) (h : tmH) (H : Heap) : Prop := H.size = b0 + h.1.1 ∧ va_P G.1 vwCl (tmw b0 G h) H ∧ tmIR h.2.1
theorem tmIR.up {I : Nat → Nat → Int} (h : tmIR I) {i k : Nat} {x : Int} (hx : inR x) : tmIR (va_up I i (va_up (I i) k x)) := by
  intro a b
  unfold va_up
  split
  · show inR (if b = k then x else I i b)
    split
    · exact hx
    · exact h i b
  · exact h a b
theorem tmIR.row {I : Nat → Nat → Int} (h : tmIR I) {i : Nat} {f : Nat → Int} (hf : ∀ k, inR (f k)) : tmIR (va_up I i f) := by
  intro a b
  unfold va_up
  split
  · exact hf b
  · exact h a b
abbrev tmA (b0 : Nat) : Nat → Prop := fun q => b0 ≤ q
/-- what holds of the tables and of the constants, at every state -/
def tmE (b0 : Nat) (G : tmG) (U : State) : Prop :=
  va_K G.1 vwCl (tmty G) U ∧ va_AO RX2 U ∧ va_AO RX6 U ∧ va_Nw (.methodLinkNest RX6 11 yX8_init "TriggerMatches") U ∧ va_Nw (.methodLinkNest RX11 72 yX10_init "TriggerMatches") U ∧
  (∃ adK adV : Nat → Nat, vk_S 1 [7] [[97, 98, 99, 100, 102, 103, 104]] adK adV (tmA b0) U U.heap ∧ vk_R RX9 134 "abcdfgh" (adK 0) U ∧ vk_R RX10 42 "abcdfgh" (adK 0) U) ∧
  va_Z "java/lang/String" "COMPACT_STRINGS" "Z" (.int 1) (tmA b0) U U.heap ∧ va_Zq "jdk/internal/util/Preconditions" "SIOOBE_FORMATTER" "Ljava/util/function/BiFunction;" (tmA b0) U U.heap
theorem tmE.go {b0 : Nat} {G : tmG} {s U : State} {H : Heap} {locs : List Loc} (h : tmE b0 G s) (hW : s.WarmedH U.vm) (hU : U.heap = H) (hS : va_S (tmA b0) s.heap H locs) : tmE b0 G U := by
  obtain ⟨h1, h2, h3, h4, h5, ⟨adK, adV, h6, h7, h8⟩, h9, h10⟩ := h
  have hq : ∀ a : Nat, a < s.heap.size → ¬ tmA b0 a → U.heap[a]? = s.heap[a]? := fun a h1 h2 => by rw [hU]; exact hS.2.1 a h1 h2
  exact ⟨va_K.moved hW.alike h1, va_AO.moved hW.alike h2, va_AO.moved hW.alike h3, va_Nw.warmM hW h4, va_Nw.warmM hW h5, ⟨adK, adV, (vk_S.moved hW.alike h6).kept hq, vk_R.warm hW h7, vk_R.warm hW h8⟩, (va_Z.moved hW.alike h9).kept hq, (va_Zq.moved hW.alike h10).kept hq⟩
theorem tmE.blind {b0 : Nat} {G : tmG} {U : State} (g : JFrame) (mk : MethodId) (a : Array Value) (h : tmE b0 G U) : tmE b0 G (U.calling g mk a) := by
  obtain ⟨h1, h2, h3, h4, h5, ⟨adK, adV, h6, h7, h8⟩, h9, h10⟩ := h
  exact ⟨va_K.moved (u := U) (U := U.calling g mk a) (Vm.Alike.refl U.vm) h1, va_AO.moved (u := U) (U := U.calling g mk a) (Vm.Alike.refl U.vm) h2, va_AO.moved (u := U) (U := U.calling g mk a) (Vm.Alike.refl U.vm) h3, va_Nw.same (u := U) rfl rfl h4, va_Nw.same (u := U) rfl rfl h5, ⟨adK, adV, vk_S.moved (u := U) (U := U.calling g mk a) (Vm.Alike.refl U.vm) h6, vk_R.same (u := U) rfl h7, vk_R.same (u := U) rfl h8⟩, va_Z.moved (u := U) (U := U.calling g mk a) (Vm.Alike.refl U.vm) h9, va_Zq.moved (u := U) (U := U.calling g mk a) (Vm.Alike.refl U.vm) h10⟩
-- locals by their places
def tmGet : List (Option tmV) → Nat → Option tmV
  | [], _ => none
  | a :: _, 0 => a
  | _ :: l, k + 1 => tmGet l k
def tmIsL : Option tmV → Bool
  | some (.inr (.inl _)) => true
  | _ => false
def tmNx (v : tmV) (l : List (Option tmV)) : List (Option tmV) := match v, l with
  | .inr (.inl _), _ :: r => none :: r
  | _, r => r
def tmSet : List (Option tmV) → Nat → tmV → List (Option tmV)
  | [], _, _ => []
  | _ :: l, 0, v => some v :: tmNx v l
  | a :: l, k + 1, v => (if k = 0 && tmIsL a then none else a) :: tmSet l k v
def tmL (b0 : Nat) (lv : List (Option tmV)) (i : Nat) (v : Value) : Prop := ∃ a, tmGet lv i = some a ∧ tmt b0 a = v
/-- the locals hold what the list says -/
def tmHas (b0 : Nat) (ls : Array Slot) (nL : Nat) (lv : List (Option tmV)) : Prop := ls.size = nL ∧ lv_wf ls ∧ ∀ i v, tmL b0 lv i v → ls[i]? = some (.val v)
theorem tmHas.at {b0 : Nat} {ls : Array Slot} {nL : Nat} {lv : List (Option tmV)} (h : tmHas b0 ls nL lv) {k : Nat} {v : tmV} (hk : tmGet lv k = some v) : ls[k]? = some (.val (tmt b0 v)) := h.2.2 k _ ⟨v, hk, rfl⟩
def tmLs (b0 : Nat) : Nat → List (Option tmV) → List (Nat × Value)
  | _, [] => []
  | i, none :: r => tmLs b0 (i + 1) r
  | i, some v :: r => (i, tmt b0 v) :: tmLs b0 (i + 1) r
theorem tmLs_mem {b0 : Nat} (lv : List (Option tmV)) : ∀ (i : Nat) (q : Nat × Value), q ∈ tmLs b0 i lv ↔ ∃ k, q.1 = i + k ∧ tmL b0 lv k q.2 := by
  induction lv with
  | nil => intro i q; simp [tmLs, tmL, tmGet]
  | cons a r ih =>
    intro i q
    have ht : (∃ k, q.1 = i + 1 + k ∧ tmL b0 r k q.2) ↔ ∃ k, q.1 = i + (k + 1) ∧ tmL b0 (a :: r) (k + 1) q.2 := by
      constructor
      · rintro ⟨k, h1, h2⟩; exact ⟨k, by omega, h2⟩
      · rintro ⟨k, h1, h2⟩; exact ⟨k, by omega, h2⟩
    cases a with
    | none =>
      simp only [tmLs, ih, ht]
      constructor
      · rintro ⟨k, h⟩; exact ⟨k + 1, h⟩
      · rintro ⟨k, h1, h2⟩
        cases k with
        | zero => obtain ⟨a, h3, -⟩ := h2; cases h3
        | succ k => exact ⟨k, h1, h2⟩
    | some v =>
      simp only [tmLs, List.mem_cons, ih, ht]
      constructor
      · rintro (h | ⟨k, h⟩)
        · exact ⟨0, by rw [h]; rfl, v, rfl, by rw [h]⟩
        · exact ⟨k + 1, h⟩
      · rintro ⟨k, h1, h2⟩
        cases k with
        | zero =>
          obtain ⟨a, h3, h4⟩ := h2
          cases h3
          left
          exact Prod.ext h1 h4.symm
        | succ k => exact Or.inr ⟨k, h1, h2⟩
theorem tmHas.to {b0 : Nat} {ls : Array Slot} {nL : Nat} {lv : List (Option tmV)} (h : tmHas b0 ls nL lv) : lv_has ls nL (tmLs b0 0 lv) :=
  ⟨h.1, h.2.1, fun q hq => by obtain ⟨k, h1, h2⟩ := (tmLs_mem lv 0 q).mp hq; rw [h1, Nat.zero_add]; exact h.2.2 k q.2 h2⟩
theorem tmGet_len {lv : List (Option tmV)} : ∀ {k : Nat} {v : tmV}, tmGet lv k = some v → k < lv.length := by
  induction lv with
  | nil => intro k v h; cases h
  | cons a r ih =>
    intro k v h
    cases k with
    | zero => simp
    | succ k => have := ih h; simp; omega
theorem tmSet_get {lv : List (Option tmV)} : ∀ {i : Nat} {v w : tmV} {k : Nat}, tmGet (tmSet lv i v) k = some w → (k = i ∧ w = v) ∨ (k ≠ i ∧ tmGet lv k = some w ∧ (k = i + 1 → tmIsL (some v) = false) ∧ (k + 1 = i → tmIsL (some w) = false)) := by
  induction lv with
  | nil => intro i v w k h; cases h
  | cons a r ih =>
    intro i v w k h
    cases i with
    | zero =>
      cases k with
      | zero => simp only [tmSet, tmGet, Option.some.injEq] at h; exact Or.inl ⟨rfl, h.symm⟩
      | succ k =>
        refine Or.inr ⟨by omega, ?_, ?_, fun h => by omega⟩
        · simp only [tmSet, tmGet] at h ⊢
          rcases v with v | v | v <;> cases r <;> simp only [tmNx] at h <;> first | exact h | (cases k <;> simp [tmGet] at h ⊢; try exact h)
        · intro hk
          obtain rfl : k = 0 := by omega
          rcases v with v | v | v
          · rfl
          · exfalso; cases r <;> simp [tmSet, tmGet, tmNx] at h
          · rfl
    | succ i =>
      cases k with
      | zero =>
        simp only [tmSet, tmGet] at h
        refine Or.inr ⟨by omega, ?_, fun h => by omega, fun h1 => ?_⟩
        · split at h
          · cases h
          · exact h
        · obtain rfl : i = 0 := by omega
          split at h
          · cases h
          · rename_i hc
            subst h
            simpa using hc
      | succ k =>
        rcases ih h with ⟨h1, h2⟩ | ⟨h1, h2, h3, h4⟩
        · exact Or.inl ⟨by omega, h2⟩
        · exact Or.inr ⟨by omega, h2, fun h => h3 (by omega), fun h => h4 (by omega)⟩
theorem tmt_cat (b0 : Nat) (v : tmV) : (tmt b0 v).category = if tmIsL (some v) then 2 else 1 := by rcases v with v | v | v <;> rfl
/-- a store into the locals -/
theorem tmHas.key {b0 : Nat} {nL : Nat} {lv : List (Option tmV)} {i : Nat} {v : tmV} (f : Nat × Value → Bool) {ls' : Array Slot} (hf : ∀ q : Nat × Value, f q = true ∨ q.1 = i ∨ (q.1 = i + 1 ∧ tmIsL (some v) = true) ∨ (q.1 + 1 = i ∧ q.2.category = 2)) (hh : lv_has ls' nL ((i, tmt b0 v) :: (tmLs b0 0 lv).filter f)) : tmHas b0 ls' nL (tmSet lv i v) := by
  refine ⟨hh.1, hh.2.1, fun k w hk => ?_⟩
  obtain ⟨a, h1, rfl⟩ := hk
  rcases tmSet_get h1 with ⟨rfl, rfl⟩ | ⟨g1, g2, g3, g4⟩
  · exact hh.2.2 (k, _) List.mem_cons_self
  · refine hh.2.2 (k, _) (List.mem_cons_of_mem _ (List.mem_filter.mpr ⟨(tmLs_mem lv 0 _).mpr ⟨k, (Nat.zero_add k).symm, a, g2, rfl⟩, ?_⟩))
    rcases hf (k, tmt b0 a) with e | e | ⟨e1, e2⟩ | ⟨e1, e2⟩
    · exact e
    · exact absurd e g1
    · rw [g3 e1] at e2; cases e2
    · dsimp only at e2; rw [tmt_cat, g4 e1] at e2; simp at e2
theorem tmHas.of1 {b0 : Nat} {nL : Nat} {lv : List (Option tmV)} {i : Nat} {v : tmV} {ls' : Array Slot} (hh : lv_has ls' nL ((i, tmt b0 v) :: (tmLs b0 0 lv).filter (fun q => !(q.1 == i) && !(q.1 + 1 == i && q.2.category == 2)))) : tmHas b0 ls' nL (tmSet lv i v) := by
  refine tmHas.key _ (fun q => ?_) hh
  by_cases a1 : q.1 = i
  · exact Or.inr (Or.inl a1)
  · by_cases a3 : q.1 + 1 = i ∧ q.2.category = 2
    · exact Or.inr (Or.inr (Or.inr a3))
    · left
      by_cases a4 : q.1 + 1 = i
      · have : ¬ q.2.category = 2 := fun z => a3 ⟨a4, z⟩
        simp [a1, this]
      · simp [a1, a4]
theorem tmHas.of2 {b0 : Nat} {nL : Nat} {lv : List (Option tmV)} {i : Nat} {x : Int64} {ls' : Array Slot} (hh : lv_has ls' nL ((i, tmt b0 (tL x)) :: (tmLs b0 0 lv).filter (fun q => !(q.1 == i) && (!(q.1 == i + 1) && !(q.1 + 1 == i && q.2.category == 2))))) : tmHas b0 ls' nL (tmSet lv i (tL x)) := by
  refine tmHas.key _ (fun q => ?_) hh
  by_cases a1 : q.1 = i
  · exact Or.inr (Or.inl a1)
  · by_cases a2 : q.1 = i + 1
    · exact Or.inr (Or.inr (Or.inl ⟨a2, rfl⟩))
    · by_cases a3 : q.1 + 1 = i ∧ q.2.category = 2
      · exact Or.inr (Or.inr (Or.inr a3))
      · left
        by_cases a4 : q.1 + 1 = i
        · have : ¬ q.2.category = 2 := fun z => a3 ⟨a4, z⟩
          simp [a1, a2, this]
        · simp [a1, a2, a4]
/-- how a method's locals begin -/
def tmEnt : List tmV → List (Option tmV)
  | [] => []
  | .inr (.inl x) :: r => some (.inr (.inl x)) :: none :: tmEnt r
  | v :: r => some v :: tmEnt r
theorem tmEnt_args {b0 : Nat} (av : List tmV) : ∀ (i k : Nat) (v : Value), tmL b0 (tmEnt av) k v → (i + k, v) ∈ lv_args i (av.map (tmt b0)) := by
  induction av with
  | nil => rintro i k v ⟨a, h, -⟩; cases h
  | cons a r ih =>
    intro i k v hk
    obtain ⟨w, h1, h2⟩ := hk
    rcases a with a | a | a
    · cases k with
      | zero => cases h1; subst h2; exact List.mem_cons_self
      | succ k => exact List.mem_cons_of_mem _ (by have := ih (i + 1) k v ⟨w, h1, h2⟩; rw [show i + (k + 1) = i + 1 + k by omega]; exact this)
    · match k, h1 with
      | 0, h1 => cases h1; subst h2; exact List.mem_cons_self
      | 1, h1 => cases h1
      | k + 2, h1 => exact List.mem_cons_of_mem _ (by have := ih (i + 2) k v ⟨w, h1, h2⟩; rw [show i + (k + 2) = i + 2 + k by omega]; exact this)
    · cases k with
      | zero => cases h1; subst h2; exact List.mem_cons_self
      | succ k => exact List.mem_cons_of_mem _ (by have := ih (i + 1) k v ⟨w, h1, h2⟩; rw [show i + (k + 1) = i + 1 + k by omega]; exact this)
theorem tmGet_app {lv : List (Option tmV)} : ∀ {r : List (Option tmV)} {k : Nat} {v : tmV}, (∀ x ∈ r, x = none) → tmGet (lv ++ r) k = some v → tmGet lv k = some v := by
  induction lv with
  | nil =>
    intro r k v hr h
    exfalso
    induction r generalizing k with
    | nil => cases h
    | cons a r ih =>
      cases k with
      | zero => have := hr a List.mem_cons_self; subst this; cases h
      | succ k => exact ih (fun x hx => hr x (List.mem_cons_of_mem _ hx)) h
  | cons a l ih =>
    intro r k v hr h
    cases k with
    | zero => exact h
    | succ k => exact ih hr h
end
section
/-! ===== 05: the judgement tmW of a walk in a method, the contract tmC of a method, rows of plain instructions ===== -/
/-- what stays while a method is walked -/
def tmX (M : tmMS) (d : Nat) (p : Program) (R : Room) (s : State) (m : MethodId) (args : Array Value) (meth : Method) (c : Code) (b0 : Nat) (G : tmG) : Prop :=
  p.tables.exec = Jvm.exec ∧ c.code = M.2.1 ∧ c.maxLocals = M.2.2.1 ∧ meth.sig.returnType = M.2.2.2.1 ∧ meth.locks = false ∧ s.vm.findClass M.1 = some m.cls ∧ (∀ w ∈ tmT, w.before args s = true) ∧ tmE b0 G s ∧ d ≤ R.frames ∧ 64 * d ≤ R.locals ∧ b0 ≤ s.heap.size ∧ (M.2.2.2.2 = true → meth.name = "<init>")
def tmQ (b0 : Nat) (G : tmG) (Q : Option tmV → tmH → Prop) : Array Value → State → Outcome → State → Prop := fun _ st o t =>
  (∃ (r : Option tmV) (h : tmH), o = .returned (r.map (tmt b0)) ∧ Q r h ∧ tmR b0 G h t.heap) ∧ va_F (tmA b0) st t
def tmP (b0 : Nat) (G : tmG) (av : List tmV) (h : tmH) : Array Value → State → Prop := va_Pc (av.map (tmt b0)) (fun U => tmE b0 G U ∧ tmR b0 G h U.heap)
def tmW (M : tmMS) (d bc bs pc : Nat) (lv : List (Option tmV)) (st : List tmV) (h : tmH) (Q : Option tmV → tmH → Prop) : Prop :=
  ∀ (p : Program) (l : Launch) (e : Env) (R : Room) (s : State) (m : MethodId) (args : Array Value) (below : List Frame) (meth : Method) (c : Code) (H : Heap) (locs : List Loc) (cells slots b0 : Nat) (G : tmG) (ls : Array Slot),
    tmX M d p R s m args meth c b0 G → cells + bc ≤ R.cells → slots + bs ≤ R.slots → tmHas b0 ls M.2.2.1 lv → tmR b0 G h H → va_S (tmA b0) s.heap H locs →
    W p l e R s m args below meth c H locs cells slots (MQ below (tmQ b0 G Q) args s R.cells R.slots (tmA b0)) (F0 m pc ls (st.map (tmt b0)))
abbrev tmRm (d mc ms : Nat) : Room := { frames := d, cells := mc, slots := ms, locals := 64 * d }
abbrev tmWs (y : MethodName) (M : tmMS) : List Cond := Cond.code y M.2.1 M.2.2.1 M.2.2.2.1 :: tmT
/-- the contract of a method: these arguments, this heap: it ends, and Q holds of its answer and its heap -/
def tmC (y : MethodName) (M : tmMS) (d mc ms : Nat) (av : List tmV) (h : tmH) (Q : Option tmV → tmH → Prop) : Prop :=
  ∀ (l : Launch) (b0 : Nat) (G : tmG), Met l y (tmWs y M) (tmRm d mc ms) (tmP b0 G av h) (tmQ b0 G Q) mc ms (tmA b0)
theorem tmC.mk {y : MethodName} {M : tmMS} {d mc ms : Nat} {av : List tmV} {h : tmH} {Q : Option tmV → tmH → Prop} {lv : List (Option tmV)} (n : Nat) (hy : y.cls = M.1 ∧ plainName y.cls = true ∧ (M.2.2.2.2 = true → y.name = "<init>")) (hl : tmEnt av ++ List.replicate n none = lv) (hn : (tmEnt av).length + n = M.2.2.1)
    (k : tmW M d mc ms 0 lv [] h Q) : tmC y M d mc ms av h Q := by
  intro l b0 G
  refine Met.ofW (cc := M.2.1) (maxL := M.2.2.1) (ret := M.2.2.2.1) hy.2.1 rfl ?_
  intro p e s m args below meth c s₁ B hml hv
  obtain ⟨rfl, hE, hR⟩ := hv
  have hts := atoms_spec (ws := tmWs y M) B.pre
  have hsl : (lg_sl (av.map (tmt b0))).length = (tmEnt av).length := by
    clear k hl hn hR hml B hts
    induction av with
    | nil => rfl
    | cons a r ih =>
      have e : lg_sl (List.map (tmt b0) (a :: r)) = lg_sl [tmt b0 a] ++ lg_sl (List.map (tmt b0) r) := by simp [lg_sl]
      rw [e, List.length_append, ih]
      rcases a with a | a | a
      · simp [lg_sl, tmEnt, tmt, Value.category]; omega
      · simp [lg_sl, tmEnt, tmt, Value.category]; omega
      · simp [lg_sl, tmEnt, tmt, Value.category]; omega
  have hle := lv_entry (av.map (tmt b0)) (n := M.2.2.1) (by rw [hsl]; omega)
  rw [lg_entry_eq]
  generalize (lg_sl (av.map (tmt b0)) ++ List.replicate (M.2.2.1 - (lg_sl (av.map (tmt b0))).length) Slot.unset).toArray = ls at hle ⊢
  have hh : tmHas b0 ls M.2.2.1 lv := ⟨hle.1, hle.2.1, fun i v hi => by
    obtain ⟨a, h1, h2⟩ := hi
    rw [← hl] at h1
    have := hle.2.2 _ (tmEnt_args av 0 i v ⟨a, tmGet_app (fun x hx => (List.mem_replicate.mp hx).2) h1, h2⟩)
    simpa using this⟩
  exact k p l e _ s m _ below meth c s.heap [] 0 0 b0 G ls ⟨B.exec, B.bytes, hml, B.returns, B.notSynchronized, by rw [← hy.1]; exact findClass_of_methodNamed B.named, fun w hw => hts w (List.mem_cons_of_mem _ hw), hE, Nat.le_refl _, Nat.le_refl _, by rw [hR.1]; omega, fun hi => (name_of_methodNamed B.named B.method).1.trans (hy.2.2 hi)⟩ (Nat.le_of_eq (Nat.zero_add _)) (Nat.le_of_eq (Nat.zero_add _)) hh hR va_S.rf
section WR
variable {M : tmMS} {d bc bs pc : Nat} {lv : List (Option tmV)} {st : List tmV} {h : tmH} {Q : Option tmV → tmH → Prop}
theorem wa_eq {lv' : List (Option tmV)} {st' : List tmV} {h' : tmH} (k : tmW M d bc bs pc lv' st' h' Q) (e1 : lv = lv') (e2 : st = st') (e3 : h = h') : tmW M d bc bs pc lv st h Q := by subst e1; subst e2; subst e3; exact k
theorem wa_iconst {n : Int} (hd : decode M.2.1 pc = .ok (.iconst n, 1)) (k : tmW M d bc bs (pc + 1) lv (tI n :: st) h Q) : tmW M d bc bs pc lv st h Q :=
  fun p l e R s m args below meth c H locs cells slots b0 G ls X hc hs hl hR hS => lv_iconst X.1 X.2.1 hd rfl (k p l e R s m args below meth c H locs cells slots b0 G ls X hc hs hl hR hS)
theorem wa_bipush {n : Int} (hd : decode M.2.1 pc = .ok (.bipush n, 2)) (hn : (Int8.ofInt n).toInt32 = Int32.ofInt n) (k : tmW M d bc bs (pc + 2) lv (tI n :: st) h Q) : tmW M d bc bs pc lv st h Q :=
  fun p l e R s m args below meth c H locs cells slots b0 G ls X hc hs hl hR hS => lv_bipush X.1 X.2.1 hd hn (k p l e R s m args below meth c H locs cells slots b0 G ls X hc hs hl hR hS)
theorem wa_sipush {n : Int} (hd : decode M.2.1 pc = .ok (.sipush n, 3)) (hn : (Int16.ofInt n).toInt32 = Int32.ofInt n) (k : tmW M d bc bs (pc + 3) lv (tI n :: st) h Q) : tmW M d bc bs pc lv st h Q :=
  fun p l e R s m args below meth c H locs cells slots b0 G ls X hc hs hl hR hS => lv_sipush X.1 X.2.1 hd hn (k p l e R s m args below meth c H locs cells slots b0 G ls X hc hs hl hR hS)
theorem wa_lconst {n : Fin 2} {v : Int64} (hd : decode M.2.1 pc = .ok (.lconst n, 1)) (hv : Int64.ofNat (n : Nat) = v) (k : tmW M d bc bs (pc + 1) lv (tL v :: st) h Q) : tmW M d bc bs pc lv st h Q :=
  fun p l e R s m args below meth c H locs cells slots b0 G ls X hc hs hl hR hS => lv_lconst X.1 X.2.1 hd hv (k p l e R s m args below meth c H locs cells slots b0 G ls X hc hs hl hR hS)
theorem wa_ldc {index : Nat} {v : Int32} {a : Int} (hd : decode M.2.1 pc = .ok (.ldc index, 2)) (hw : Cond.constant M.1 index v ∈ tmT) (hv : v = Int32.ofInt a) (k : tmW M d bc bs (pc + 2) lv (tI a :: st) h Q) : tmW M d bc bs pc lv st h Q := by
  subst hv
  exact fun p l e R s m args below meth c H locs cells slots b0 G ls X hc hs hl hR hS => lv_ldc X.1 X.2.1 X.2.2.2.2.2.1 (X.2.2.2.2.2.2.1 _ hw) hd (k p l e R s m args below meth c H locs cells slots b0 G ls X hc hs hl hR hS)
theorem wa_ldcw {index : Nat} {v : Int32} {a : Int} (hd : decode M.2.1 pc = .ok (.ldc_w index, 3)) (hw : Cond.constant M.1 index v ∈ tmT) (hv : v = Int32.ofInt a) (k : tmW M d bc bs (pc + 3) lv (tI a :: st) h Q) : tmW M d bc bs pc lv st h Q := by
  subst hv
  exact fun p l e R s m args below meth c H locs cells slots b0 G ls X hc hs hl hR hS => lv_ldcw X.1 X.2.1 X.2.2.2.2.2.1 (X.2.2.2.2.2.2.1 _ hw) hd (k p l e R s m args below meth c H locs cells slots b0 G ls X hc hs hl hR hS)
theorem wa_ldc2 {index : Nat} {v : Int64} (hd : decode M.2.1 pc = .ok (.ldc2_w index, 3)) (hw : Cond.constantLong M.1 index v ∈ tmT) (k : tmW M d bc bs (pc + 3) lv (tL v :: st) h Q) : tmW M d bc bs pc lv st h Q :=
  fun p l e R s m args below meth c H locs cells slots b0 G ls X hc hs hl hR hS => lv_ldc2 X.1 X.2.1 X.2.2.2.2.2.1 (X.2.2.2.2.2.2.1 _ hw) hd (k p l e R s m args below meth c H locs cells slots b0 G ls X hc hs hl hR hS)
theorem wa_iload_n {i : Fin 4} {a : Int} (hd : decode M.2.1 pc = .ok (.iload_n i, 1)) (hk : tmGet lv i = some (tI a)) (k : tmW M d bc bs (pc + 1) lv (tI a :: st) h Q) : tmW M d bc bs pc lv st h Q :=
  fun p l e R s m args below meth c H locs cells slots b0 G ls X hc hs hl hR hS => lv_iload_n X.1 X.2.1 hd rfl (hl.at hk) (k p l e R s m args below meth c H locs cells slots b0 G ls X hc hs hl hR hS)
theorem wa_iload {i : Nat} {a : Int} (hd : decode M.2.1 pc = .ok (.iload i, 2)) (hk : tmGet lv i = some (tI a)) (k : tmW M d bc bs (pc + 2) lv (tI a :: st) h Q) : tmW M d bc bs pc lv st h Q :=
  fun p l e R s m args below meth c H locs cells slots b0 G ls X hc hs hl hR hS => lv_iload X.1 X.2.1 hd (hl.at hk) (k p l e R s m args below meth c H locs cells slots b0 G ls X hc hs hl hR hS)
theorem wa_lload_n {i : Fin 4} {a : Int64} (hd : decode M.2.1 pc = .ok (.lload_n i, 1)) (hk : tmGet lv i = some (tL a)) (k : tmW M d bc bs (pc + 1) lv (tL a :: st) h Q) : tmW M d bc bs pc lv st h Q :=
  fun p l e R s m args below meth c H locs cells slots b0 G ls X hc hs hl hR hS => lv_lload_n X.1 X.2.1 hd rfl (hl.at hk) (k p l e R s m args below meth c H locs cells slots b0 G ls X hc hs hl hR hS)
theorem wa_lload {i : Nat} {a : Int64} (hd : decode M.2.1 pc = .ok (.lload i, 2)) (hk : tmGet lv i = some (tL a)) (k : tmW M d bc bs (pc + 2) lv (tL a :: st) h Q) : tmW M d bc bs pc lv st h Q :=
  fun p l e R s m args below meth c H locs cells slots b0 G ls X hc hs hl hR hS => lv_lload X.1 X.2.1 hd (hl.at hk) (k p l e R s m args below meth c H locs cells slots b0 G ls X hc hs hl hR hS)
theorem wa_aload_n {i : Fin 4} {a : Nat} (hd : decode M.2.1 pc = .ok (.aload_n i, 1)) (hk : tmGet lv i = some (tR a)) (k : tmW M d bc bs (pc + 1) lv (tR a :: st) h Q) : tmW M d bc bs pc lv st h Q :=
  fun p l e R s m args below meth c H locs cells slots b0 G ls X hc hs hl hR hS => lv_aload_n X.1 X.2.1 hd rfl (hl.at hk) (k p l e R s m args below meth c H locs cells slots b0 G ls X hc hs hl hR hS)
theorem wa_aload {i : Nat} {a : Nat} (hd : decode M.2.1 pc = .ok (.aload i, 2)) (hk : tmGet lv i = some (tR a)) (k : tmW M d bc bs (pc + 2) lv (tR a :: st) h Q) : tmW M d bc bs pc lv st h Q :=
  fun p l e R s m args below meth c H locs cells slots b0 G ls X hc hs hl hR hS => lv_aload X.1 X.2.1 hd (hl.at hk) (k p l e R s m args below meth c H locs cells slots b0 G ls X hc hs hl hR hS)
-- stores
theorem wa_istore_n {i : Fin 4} {a : Int} (hd : decode M.2.1 pc = .ok (.istore_n i, 1)) (hi : (i : Nat) < M.2.2.1) (k : tmW M d bc bs (pc + 1) (tmSet lv i (tI a)) st h Q) : tmW M d bc bs pc lv (tI a :: st) h Q :=
  fun p l e R s m args below meth c H locs cells slots b0 G ls X hc hs hl hR hS => lv_istore_n X.1 X.2.1 hd rfl hl.to hi rfl (fun ls' h' => k p l e R s m args below meth c H locs cells slots b0 G ls' X hc hs (tmHas.of1 h') hR hS)
theorem wa_istore {i : Nat} {a : Int} (hd : decode M.2.1 pc = .ok (.istore i, 2)) (hi : i < M.2.2.1) (k : tmW M d bc bs (pc + 2) (tmSet lv i (tI a)) st h Q) : tmW M d bc bs pc lv (tI a :: st) h Q :=
  fun p l e R s m args below meth c H locs cells slots b0 G ls X hc hs hl hR hS => lv_istore X.1 X.2.1 hd hl.to hi rfl (fun ls' h' => k p l e R s m args below meth c H locs cells slots b0 G ls' X hc hs (tmHas.of1 h') hR hS)
theorem wa_astore_n {i : Fin 4} {a : Nat} (hd : decode M.2.1 pc = .ok (.astore_n i, 1)) (hi : (i : Nat) < M.2.2.1) (k : tmW M d bc bs (pc + 1) (tmSet lv i (tR a)) st h Q) : tmW M d bc bs pc lv (tR a :: st) h Q :=
  fun p l e R s m args below meth c H locs cells slots b0 G ls X hc hs hl hR hS => lv_astore_n X.1 X.2.1 hd rfl hl.to hi rfl (fun ls' h' => k p l e R s m args below meth c H locs cells slots b0 G ls' X hc hs (tmHas.of1 h') hR hS)
theorem wa_astore {i : Nat} {a : Nat} (hd : decode M.2.1 pc = .ok (.astore i, 2)) (hi : i < M.2.2.1) (k : tmW M d bc bs (pc + 2) (tmSet lv i (tR a)) st h Q) : tmW M d bc bs pc lv (tR a :: st) h Q :=
  fun p l e R s m args below meth c H locs cells slots b0 G ls X hc hs hl hR hS => lv_astore X.1 X.2.1 hd hl.to hi rfl (fun ls' h' => k p l e R s m args below meth c H locs cells slots b0 G ls' X hc hs (tmHas.of1 h') hR hS)
theorem wa_lstore_n {i : Fin 4} {a : Int64} (hd : decode M.2.1 pc = .ok (.lstore_n i, 1)) (hi : (i : Nat) + 1 < M.2.2.1) (k : tmW M d bc bs (pc + 1) (tmSet lv i (tL a)) st h Q) : tmW M d bc bs pc lv (tL a :: st) h Q :=
  fun p l e R s m args below meth c H locs cells slots b0 G ls X hc hs hl hR hS => lv_lstore_n X.1 X.2.1 hd rfl hl.to hi rfl (fun ls' h' => k p l e R s m args below meth c H locs cells slots b0 G ls' X hc hs (tmHas.of2 h') hR hS)
theorem wa_lstore {i : Nat} {a : Int64} (hd : decode M.2.1 pc = .ok (.lstore i, 2)) (hi : i + 1 < M.2.2.1) (k : tmW M d bc bs (pc + 2) (tmSet lv i (tL a)) st h Q) : tmW M d bc bs pc lv (tL a :: st) h Q :=
  fun p l e R s m args below meth c H locs cells slots b0 G ls X hc hs hl hR hS => lv_lstore X.1 X.2.1 hd hl.to hi rfl (fun ls' h' => k p l e R s m args below meth c H locs cells slots b0 G ls' X hc hs (tmHas.of2 h') hR hS)
theorem tmGet_at {b0 : Nat} : ∀ {lv : List (Option tmV)} {k : Nat} {v : tmV}, tmGet lv k = some v → ∃ j : Nat, (tmLs b0 0 lv)[j]? = some (k, tmt b0 v) := by
  intro lv k v hk
  exact List.getElem?_of_mem ((tmLs_mem lv 0 (k, tmt b0 v)).mpr ⟨k, (Nat.zero_add k).symm, v, hk, rfl⟩)
theorem wa_iinc {i : Nat} {n a : Int} (hd : decode M.2.1 pc = .ok (.iinc i n, 3)) (hk : tmGet lv i = some (tI a)) (hi : i < M.2.2.1) (k : tmW M d bc bs (pc + 3) (tmSet lv i (tI (a + n))) st h Q) : tmW M d bc bs pc lv st h Q := by
  intro p l e R s m args below meth c H locs cells slots b0 G ls X hc hs hl hR hS
  obtain ⟨j, hj⟩ := tmGet_at (b0 := b0) hk
  exact lv_iinc X.1 X.2.1 hd hl.to hj (v := Int32.ofInt (a + n)) (Int32.ofInt_add _ _).symm hi rfl (fun ls' h' => k p l e R s m args below meth c H locs cells slots b0 G ls' X hc hs (tmHas.of1 h') hR hS)
theorem wa_iadd {a b : Int} (hd : decode M.2.1 pc = .ok (.iadd, 1)) (k : tmW M d bc bs (pc + 1) lv (tI (a + b) :: st) h Q) : tmW M d bc bs pc lv (tI b :: tI a :: st) h Q := by
  intro p l e R s m args below meth c H locs cells slots b0 G ls X hc hs hl hR hS
  have k2 := k p l e R s m args below meth c H locs cells slots b0 G ls X hc hs hl hR hS
  refine lv_iadd X.1 X.2.1 hd ?_
  rw [← Int32.ofInt_add]
  exact k2
theorem wa_isub {a b : Int} (hd : decode M.2.1 pc = .ok (.isub, 1)) (k : tmW M d bc bs (pc + 1) lv (tI (a - b) :: st) h Q) : tmW M d bc bs pc lv (tI b :: tI a :: st) h Q := by
  intro p l e R s m args below meth c H locs cells slots b0 G ls X hc hs hl hR hS
  have k2 := k p l e R s m args below meth c H locs cells slots b0 G ls X hc hs hl hR hS
  refine lv_isub X.1 X.2.1 hd ?_
  rw [← Int32.ofInt_sub]
  exact k2
theorem wa_imul {a b : Int} (hd : decode M.2.1 pc = .ok (.imul, 1)) (k : tmW M d bc bs (pc + 1) lv (tI (a * b) :: st) h Q) : tmW M d bc bs pc lv (tI b :: tI a :: st) h Q := by
  intro p l e R s m args below meth c H locs cells slots b0 G ls X hc hs hl hR hS
  have k2 := k p l e R s m args below meth c H locs cells slots b0 G ls X hc hs hl hR hS
  refine lv_imul X.1 X.2.1 hd ?_
  rw [← Int32.ofInt_mul]
  exact k2
theorem wa_iand {a b r : Int} (hd : decode M.2.1 pc = .ok (.iand, 1)) (hr : Int32.ofInt a &&& Int32.ofInt b = Int32.ofInt r) (k : tmW M d bc bs (pc + 1) lv (tI r :: st) h Q) : tmW M d bc bs pc lv (tI b :: tI a :: st) h Q := by
  intro p l e R s m args below meth c H locs cells slots b0 G ls X hc hs hl hR hS
  have k2 := k p l e R s m args below meth c H locs cells slots b0 G ls X hc hs hl hR hS
  refine lv_iand X.1 X.2.1 hd ?_
  rw [hr]
  exact k2
theorem wa_ior {a b r : Int} (hd : decode M.2.1 pc = .ok (.ior, 1)) (hr : Int32.ofInt a ||| Int32.ofInt b = Int32.ofInt r) (k : tmW M d bc bs (pc + 1) lv (tI r :: st) h Q) : tmW M d bc bs pc lv (tI b :: tI a :: st) h Q := by
  intro p l e R s m args below meth c H locs cells slots b0 G ls X hc hs hl hR hS
  have k2 := k p l e R s m args below meth c H locs cells slots b0 G ls X hc hs hl hR hS
  refine lv_ior X.1 X.2.1 hd ?_
  rw [hr]
  exact k2
theorem wa_ishl {a b r : Int} (hd : decode M.2.1 pc = .ok (.ishl, 1)) (hr : Int32.ofInt a <<< (Int32.ofInt b &&& 31) = Int32.ofInt r) (k : tmW M d bc bs (pc + 1) lv (tI r :: st) h Q) : tmW M d bc bs pc lv (tI b :: tI a :: st) h Q := by
  intro p l e R s m args below meth c H locs cells slots b0 G ls X hc hs hl hR hS
  have k2 := k p l e R s m args below meth c H locs cells slots b0 G ls X hc hs hl hR hS
  refine lv_ishl X.1 X.2.1 hd ?_
  rw [hr]
  exact k2
theorem wa_ishr {a b r : Int} (hd : decode M.2.1 pc = .ok (.ishr, 1)) (hr : Int32.ofInt a >>> (Int32.ofInt b &&& 31) = Int32.ofInt r) (k : tmW M d bc bs (pc + 1) lv (tI r :: st) h Q) : tmW M d bc bs pc lv (tI b :: tI a :: st) h Q := by
  intro p l e R s m args below meth c H locs cells slots b0 G ls X hc hs hl hR hS
  have k2 := k p l e R s m args below meth c H locs cells slots b0 G ls X hc hs hl hR hS
  refine lv_ishr X.1 X.2.1 hd ?_
  rw [hr]
  exact k2
theorem wa_iushr {a b r : Int} (hd : decode M.2.1 pc = .ok (.iushr, 1)) (hr : ((Int32.ofInt a).toUInt32 >>> ((Int32.ofInt b).toUInt32 &&& Int32.toUInt32 31)).toInt32 = Int32.ofInt r) (k : tmW M d bc bs (pc + 1) lv (tI r :: st) h Q) : tmW M d bc bs pc lv (tI b :: tI a :: st) h Q := by
  intro p l e R s m args below meth c H locs cells slots b0 G ls X hc hs hl hR hS
  have k2 := k p l e R s m args below meth c H locs cells slots b0 G ls X hc hs hl hR hS
  refine lv_iushr X.1 X.2.1 hd rfl ?_
  rw [hr]
  exact k2
theorem wa_ineg {a : Int} (hd : decode M.2.1 pc = .ok (.ineg, 1)) (k : tmW M d bc bs (pc + 1) lv (tI (-a) :: st) h Q) : tmW M d bc bs pc lv (tI a :: st) h Q := by
  intro p l e R s m args below meth c H locs cells slots b0 G ls X hc hs hl hR hS
  have k2 := k p l e R s m args below meth c H locs cells slots b0 G ls X hc hs hl hR hS
  refine lv_ineg X.1 X.2.1 hd ?_
  rw [← Int32.ofInt_neg]
  exact k2
theorem wa_irem {a b r : Int} (hd : decode M.2.1 pc = .ok (.irem, 1)) (hb : ¬ Int32.ofInt b = 0) (hr : Int32.ofInt a - Int32.ofInt a / Int32.ofInt b * Int32.ofInt b = Int32.ofInt r) (k : tmW M d bc bs (pc + 1) lv (tI r :: st) h Q) : tmW M d bc bs pc lv (tI b :: tI a :: st) h Q := by
  intro p l e R s m args below meth c H locs cells slots b0 G ls X hc hs hl hR hS
  have k2 := k p l e R s m args below meth c H locs cells slots b0 G ls X hc hs hl hR hS
  refine lv_irem X.1 X.2.1 hd hb ?_
  rw [hr]
  exact k2
theorem wa_ladd {a b : Int64} (hd : decode M.2.1 pc = .ok (.ladd, 1)) (k : tmW M d bc bs (pc + 1) lv (tL (a + b) :: st) h Q) : tmW M d bc bs pc lv (tL b :: tL a :: st) h Q :=
  fun p l e R s m args below meth c H locs cells slots b0 G ls X hc hs hl hR hS => lv_ladd X.1 X.2.1 hd (k p l e R s m args below meth c H locs cells slots b0 G ls X hc hs hl hR hS)
theorem wa_lmul {a b : Int64} (hd : decode M.2.1 pc = .ok (.lmul, 1)) (k : tmW M d bc bs (pc + 1) lv (tL (a * b) :: st) h Q) : tmW M d bc bs pc lv (tL b :: tL a :: st) h Q :=
  fun p l e R s m args below meth c H locs cells slots b0 G ls X hc hs hl hR hS => lv_lmul X.1 X.2.1 hd (k p l e R s m args below meth c H locs cells slots b0 G ls X hc hs hl hR hS)
theorem wa_land {a b : Int64} (hd : decode M.2.1 pc = .ok (.land, 1)) (k : tmW M d bc bs (pc + 1) lv (tL (a &&& b) :: st) h Q) : tmW M d bc bs pc lv (tL b :: tL a :: st) h Q :=
  fun p l e R s m args below meth c H locs cells slots b0 G ls X hc hs hl hR hS => lv_land X.1 X.2.1 hd (k p l e R s m args below meth c H locs cells slots b0 G ls X hc hs hl hR hS)
theorem wa_lor {a b : Int64} (hd : decode M.2.1 pc = .ok (.lor, 1)) (k : tmW M d bc bs (pc + 1) lv (tL (a ||| b) :: st) h Q) : tmW M d bc bs pc lv (tL b :: tL a :: st) h Q :=
  fun p l e R s m args below meth c H locs cells slots b0 G ls X hc hs hl hR hS => lv_lor X.1 X.2.1 hd (k p l e R s m args below meth c H locs cells slots b0 G ls X hc hs hl hR hS)
theorem wa_lshl {a r : Int64} {b : Int} (hd : decode M.2.1 pc = .ok (.lshl, 1)) (hr : a <<< ((Int32.ofInt b).toInt64 &&& 63) = r) (k : tmW M d bc bs (pc + 1) lv (tL r :: st) h Q) : tmW M d bc bs pc lv (tI b :: tL a :: st) h Q :=
  fun p l e R s m args below meth c H locs cells slots b0 G ls X hc hs hl hR hS => lv_lshl X.1 X.2.1 hd hr (k p l e R s m args below meth c H locs cells slots b0 G ls X hc hs hl hR hS)
theorem wa_lshr {a r : Int64} {b : Int} (hd : decode M.2.1 pc = .ok (.lshr, 1)) (hr : a >>> ((Int32.ofInt b).toInt64 &&& 63) = r) (k : tmW M d bc bs (pc + 1) lv (tL r :: st) h Q) : tmW M d bc bs pc lv (tI b :: tL a :: st) h Q :=
  fun p l e R s m args below meth c H locs cells slots b0 G ls X hc hs hl hR hS => lv_lshr X.1 X.2.1 hd hr (k p l e R s m args below meth c H locs cells slots b0 G ls X hc hs hl hR hS)
theorem wa_lushr {a r : Int64} {b : Int} (hd : decode M.2.1 pc = .ok (.lushr, 1)) (hr : (a.toUInt64 >>> ((Int32.ofInt b).toInt64.toUInt64 &&& Int64.toUInt64 63)).toInt64 = r) (k : tmW M d bc bs (pc + 1) lv (tL r :: st) h Q) : tmW M d bc bs pc lv (tI b :: tL a :: st) h Q :=
  fun p l e R s m args below meth c H locs cells slots b0 G ls X hc hs hl hR hS => lv_lushr X.1 X.2.1 hd hr (k p l e R s m args below meth c H locs cells slots b0 G ls X hc hs hl hR hS)
theorem wa_i2l {a : Int} {r : Int64} (hd : decode M.2.1 pc = .ok (.i2l, 1)) (hr : (Int32.ofInt a).toInt64 = r) (k : tmW M d bc bs (pc + 1) lv (tL r :: st) h Q) : tmW M d bc bs pc lv (tI a :: st) h Q :=
  fun p l e R s m args below meth c H locs cells slots b0 G ls X hc hs hl hR hS => lv_i2l X.1 X.2.1 hd hr (k p l e R s m args below meth c H locs cells slots b0 G ls X hc hs hl hR hS)
theorem wa_l2i {a : Int64} {r : Int} (hd : decode M.2.1 pc = .ok (.l2i, 1)) (hr : a.toInt32 = Int32.ofInt r) (k : tmW M d bc bs (pc + 1) lv (tI r :: st) h Q) : tmW M d bc bs pc lv (tL a :: st) h Q :=
  fun p l e R s m args below meth c H locs cells slots b0 G ls X hc hs hl hR hS => lv_l2i X.1 X.2.1 hd hr (k p l e R s m args below meth c H locs cells slots b0 G ls X hc hs hl hR hS)
theorem wa_lcmp {a b : Int64} {r : Int} (hd : decode M.2.1 pc = .ok (.lcmp, 1)) (hr : lg_cmp a b = Int32.ofInt r) (k : tmW M d bc bs (pc + 1) lv (tI r :: st) h Q) : tmW M d bc bs pc lv (tL b :: tL a :: st) h Q := by
  intro p l e R s m args below meth c H locs cells slots b0 G ls X hc hs hl hR hS
  have k2 := k p l e R s m args below meth c H locs cells slots b0 G ls X hc hs hl hR hS
  refine W.lcmp X.1 X.2.1 hd ?_
  rw [hr]
  exact k2
theorem wa_dup {v : tmV} (hd : decode M.2.1 pc = .ok (.dup, 1)) (hv : tmIsL (some v) = false) (k : tmW M d bc bs (pc + 1) lv (v :: v :: st) h Q) : tmW M d bc bs pc lv (v :: st) h Q :=
  fun p l e R s m args below meth c H locs cells slots b0 G ls X hc hs hl hR hS => lv_dup X.1 X.2.1 hd (by rw [tmt_cat, hv]; rfl) (k p l e R s m args below meth c H locs cells slots b0 G ls X hc hs hl hR hS)
theorem wa_pop {v : tmV} (hd : decode M.2.1 pc = .ok (.pop, 1)) (hv : tmIsL (some v) = false) (k : tmW M d bc bs (pc + 1) lv st h Q) : tmW M d bc bs pc lv (v :: st) h Q :=
  fun p l e R s m args below meth c H locs cells slots b0 G ls X hc hs hl hR hS => lv_pop X.1 X.2.1 hd (by rw [tmt_cat, hv]; rfl) (k p l e R s m args below meth c H locs cells slots b0 G ls X hc hs hl hR hS)
theorem wa_dup2 {v w : tmV} (hd : decode M.2.1 pc = .ok (.dup2, 1)) (hv : tmIsL (some v) = false) (hw : tmIsL (some w) = false) (k : tmW M d bc bs (pc + 1) lv (v :: w :: v :: w :: st) h Q) : tmW M d bc bs pc lv (v :: w :: st) h Q :=
  fun p l e R s m args below meth c H locs cells slots b0 G ls X hc hs hl hR hS => lv_dup2_11 X.1 X.2.1 hd (by rw [tmt_cat, hv]; rfl) (by rw [tmt_cat, hw]; rfl) (k p l e R s m args below meth c H locs cells slots b0 G ls X hc hs hl hR hS)
theorem wa_goto {off : Int} (tgt : Nat) (hd : decode M.2.1 pc = .ok (.goto off, 3)) (ht : (pc : Int) + off = (tgt : Int)) (k : tmW M d bc bs tgt lv st h Q) : tmW M d bc bs pc lv st h Q :=
  fun p l e R s m args below meth c H locs cells slots b0 G ls X hc hs hl hR hS => lv_goto X.1 X.2.1 hd ht (k p l e R s m args below meth c H locs cells slots b0 G ls X hc hs hl hR hS)
theorem tm_toInt {a : Int} (h : inR a) : (Int32.ofInt a).toInt = a := Int32.toInt_ofInt_of_le (by have := h.1; simpa using this) (by have := h.2; omega)
theorem tm_lt {a b : Int} (ha : inR a) (hb : inR b) : Int32.ofInt a < Int32.ofInt b ↔ a < b := by rw [Int32.lt_iff_toInt_lt, tm_toInt ha, tm_toInt hb]
theorem tm_le {a b : Int} (ha : inR a) (hb : inR b) : Int32.ofInt a ≤ Int32.ofInt b ↔ a ≤ b := by rw [Int32.le_iff_toInt_le, tm_toInt ha, tm_toInt hb]
theorem tm_eq {a b : Int} (ha : inR a) (hb : inR b) : Int32.ofInt a = Int32.ofInt b ↔ a = b := by rw [← Int32.toInt_inj, tm_toInt ha, tm_toInt hb]
theorem inR0 : inR 0 := ⟨by decide, by decide⟩
theorem tm_0 : Int32.ofInt 0 = 0 := rfl
theorem wa_icmp_eq {a b off : Int} (tgt : Nat) (hd : decode M.2.1 pc = .ok (.if_icmp .eq off, 3)) (ht : (pc : Int) + off = (tgt : Int)) (ha : inR a) (hb : inR b) (kt : (a = b) → tmW M d bc bs tgt lv st h Q) (kf : (¬ a = b) → tmW M d bc bs (pc + 3) lv st h Q) : tmW M d bc bs pc lv (tI b :: tI a :: st) h Q :=
  fun p l e R s m args below meth c H locs cells slots b0 G ls X hc hs hl hR hS => lv_icmp_eq X.1 X.2.1 hd ht (fun q => kt ((tm_eq ha hb).mp q) p l e R s m args below meth c H locs cells slots b0 G ls X hc hs hl hR hS) (fun q => kf (fun z => q ((tm_eq ha hb).mpr z)) p l e R s m args below meth c H locs cells slots b0 G ls X hc hs hl hR hS)
theorem wa_icmp_ne {a b off : Int} (tgt : Nat) (hd : decode M.2.1 pc = .ok (.if_icmp .ne off, 3)) (ht : (pc : Int) + off = (tgt : Int)) (ha : inR a) (hb : inR b) (kt : (¬ a = b) → tmW M d bc bs tgt lv st h Q) (kf : (a = b) → tmW M d bc bs (pc + 3) lv st h Q) : tmW M d bc bs pc lv (tI b :: tI a :: st) h Q :=
  fun p l e R s m args below meth c H locs cells slots b0 G ls X hc hs hl hR hS => lv_icmp_ne X.1 X.2.1 hd ht (fun q => kt (fun z => q ((tm_eq ha hb).mpr z)) p l e R s m args below meth c H locs cells slots b0 G ls X hc hs hl hR hS) (fun q => kf ((tm_eq ha hb).mp q) p l e R s m args below meth c H locs cells slots b0 G ls X hc hs hl hR hS)
theorem wa_icmp_lt {a b off : Int} (tgt : Nat) (hd : decode M.2.1 pc = .ok (.if_icmp .lt off, 3)) (ht : (pc : Int) + off = (tgt : Int)) (ha : inR a) (hb : inR b) (kt : (a < b) → tmW M d bc bs tgt lv st h Q) (kf : (¬ a < b) → tmW M d bc bs (pc + 3) lv st h Q) : tmW M d bc bs pc lv (tI b :: tI a :: st) h Q :=
  fun p l e R s m args below meth c H locs cells slots b0 G ls X hc hs hl hR hS => lv_icmp_lt X.1 X.2.1 hd ht (fun q => kt ((tm_lt ha hb).mp q) p l e R s m args below meth c H locs cells slots b0 G ls X hc hs hl hR hS) (fun q => kf (fun z => q ((tm_lt ha hb).mpr z)) p l e R s m args below meth c H locs cells slots b0 G ls X hc hs hl hR hS)
theorem wa_icmp_ge {a b off : Int} (tgt : Nat) (hd : decode M.2.1 pc = .ok (.if_icmp .ge off, 3)) (ht : (pc : Int) + off = (tgt : Int)) (ha : inR a) (hb : inR b) (kt : (b ≤ a) → tmW M d bc bs tgt lv st h Q) (kf : (¬ b ≤ a) → tmW M d bc bs (pc + 3) lv st h Q) : tmW M d bc bs pc lv (tI b :: tI a :: st) h Q :=
  fun p l e R s m args below meth c H locs cells slots b0 G ls X hc hs hl hR hS => lv_icmp_ge X.1 X.2.1 hd ht (fun q => kt ((tm_le hb ha).mp q) p l e R s m args below meth c H locs cells slots b0 G ls X hc hs hl hR hS) (fun q => kf (fun z => q ((tm_le hb ha).mpr z)) p l e R s m args below meth c H locs cells slots b0 G ls X hc hs hl hR hS)
theorem wa_icmp_gt {a b off : Int} (tgt : Nat) (hd : decode M.2.1 pc = .ok (.if_icmp .gt off, 3)) (ht : (pc : Int) + off = (tgt : Int)) (ha : inR a) (hb : inR b) (kt : (b < a) → tmW M d bc bs tgt lv st h Q) (kf : (¬ b < a) → tmW M d bc bs (pc + 3) lv st h Q) : tmW M d bc bs pc lv (tI b :: tI a :: st) h Q :=
  fun p l e R s m args below meth c H locs cells slots b0 G ls X hc hs hl hR hS => lv_icmp_gt X.1 X.2.1 hd ht (fun q => kt ((tm_lt hb ha).mp q) p l e R s m args below meth c H locs cells slots b0 G ls X hc hs hl hR hS) (fun q => kf (fun z => q ((tm_lt hb ha).mpr z)) p l e R s m args below meth c H locs cells slots b0 G ls X hc hs hl hR hS)
theorem wa_icmp_le {a b off : Int} (tgt : Nat) (hd : decode M.2.1 pc = .ok (.if_icmp .le off, 3)) (ht : (pc : Int) + off = (tgt : Int)) (ha : inR a) (hb : inR b) (kt : (a ≤ b) → tmW M d bc bs tgt lv st h Q) (kf : (¬ a ≤ b) → tmW M d bc bs (pc + 3) lv st h Q) : tmW M d bc bs pc lv (tI b :: tI a :: st) h Q :=
  fun p l e R s m args below meth c H locs cells slots b0 G ls X hc hs hl hR hS => lv_icmp_le X.1 X.2.1 hd ht (fun q => kt ((tm_le ha hb).mp q) p l e R s m args below meth c H locs cells slots b0 G ls X hc hs hl hR hS) (fun q => kf (fun z => q ((tm_le ha hb).mpr z)) p l e R s m args below meth c H locs cells slots b0 G ls X hc hs hl hR hS)
theorem wa_if_eq {a off : Int} (tgt : Nat) (hd : decode M.2.1 pc = .ok (.ifCond .eq off, 3)) (ht : (pc : Int) + off = (tgt : Int)) (ha : inR a) (kt : (a = 0) → tmW M d bc bs tgt lv st h Q) (kf : (¬ a = 0) → tmW M d bc bs (pc + 3) lv st h Q) : tmW M d bc bs pc lv (tI a :: st) h Q :=
  fun p l e R s m args below meth c H locs cells slots b0 G ls X hc hs hl hR hS => lv_if_eq X.1 X.2.1 hd ht (fun q => kt ((tm_eq ha inR0).mp q) p l e R s m args below meth c H locs cells slots b0 G ls X hc hs hl hR hS) (fun q => kf (fun z => q ((tm_eq ha inR0).mpr z)) p l e R s m args below meth c H locs cells slots b0 G ls X hc hs hl hR hS)
theorem wa_if_ne {a off : Int} (tgt : Nat) (hd : decode M.2.1 pc = .ok (.ifCond .ne off, 3)) (ht : (pc : Int) + off = (tgt : Int)) (ha : inR a) (kt : (¬ a = 0) → tmW M d bc bs tgt lv st h Q) (kf : (a = 0) → tmW M d bc bs (pc + 3) lv st h Q) : tmW M d bc bs pc lv (tI a :: st) h Q :=
  fun p l e R s m args below meth c H locs cells slots b0 G ls X hc hs hl hR hS => lv_if_ne X.1 X.2.1 hd ht (fun q => kt (fun z => q ((tm_eq ha inR0).mpr z)) p l e R s m args below meth c H locs cells slots b0 G ls X hc hs hl hR hS) (fun q => kf ((tm_eq ha inR0).mp q) p l e R s m args below meth c H locs cells slots b0 G ls X hc hs hl hR hS)
theorem wa_if_lt {a off : Int} (tgt : Nat) (hd : decode M.2.1 pc = .ok (.ifCond .lt off, 3)) (ht : (pc : Int) + off = (tgt : Int)) (ha : inR a) (kt : (a < 0) → tmW M d bc bs tgt lv st h Q) (kf : (¬ a < 0) → tmW M d bc bs (pc + 3) lv st h Q) : tmW M d bc bs pc lv (tI a :: st) h Q :=
  fun p l e R s m args below meth c H locs cells slots b0 G ls X hc hs hl hR hS => lv_if_lt X.1 X.2.1 hd ht (fun q => kt ((tm_lt ha inR0).mp q) p l e R s m args below meth c H locs cells slots b0 G ls X hc hs hl hR hS) (fun q => kf (fun z => q ((tm_lt ha inR0).mpr z)) p l e R s m args below meth c H locs cells slots b0 G ls X hc hs hl hR hS)
theorem wa_if_ge {a off : Int} (tgt : Nat) (hd : decode M.2.1 pc = .ok (.ifCond .ge off, 3)) (ht : (pc : Int) + off = (tgt : Int)) (ha : inR a) (kt : (0 ≤ a) → tmW M d bc bs tgt lv st h Q) (kf : (¬ 0 ≤ a) → tmW M d bc bs (pc + 3) lv st h Q) : tmW M d bc bs pc lv (tI a :: st) h Q :=
  fun p l e R s m args below meth c H locs cells slots b0 G ls X hc hs hl hR hS => lv_if_ge X.1 X.2.1 hd ht (fun q => kt ((tm_le inR0 ha).mp q) p l e R s m args below meth c H locs cells slots b0 G ls X hc hs hl hR hS) (fun q => kf (fun z => q ((tm_le inR0 ha).mpr z)) p l e R s m args below meth c H locs cells slots b0 G ls X hc hs hl hR hS)
theorem wa_if_gt {a off : Int} (tgt : Nat) (hd : decode M.2.1 pc = .ok (.ifCond .gt off, 3)) (ht : (pc : Int) + off = (tgt : Int)) (ha : inR a) (kt : (0 < a) → tmW M d bc bs tgt lv st h Q) (kf : (¬ 0 < a) → tmW M d bc bs (pc + 3) lv st h Q) : tmW M d bc bs pc lv (tI a :: st) h Q :=
  fun p l e R s m args below meth c H locs cells slots b0 G ls X hc hs hl hR hS => lv_if_gt X.1 X.2.1 hd ht (fun q => kt ((tm_lt inR0 ha).mp q) p l e R s m args below meth c H locs cells slots b0 G ls X hc hs hl hR hS) (fun q => kf (fun z => q ((tm_lt inR0 ha).mpr z)) p l e R s m args below meth c H locs cells slots b0 G ls X hc hs hl hR hS)
theorem wa_if_le {a off : Int} (tgt : Nat) (hd : decode M.2.1 pc = .ok (.ifCond .le off, 3)) (ht : (pc : Int) + off = (tgt : Int)) (ha : inR a) (kt : (a ≤ 0) → tmW M d bc bs tgt lv st h Q) (kf : (¬ a ≤ 0) → tmW M d bc bs (pc + 3) lv st h Q) : tmW M d bc bs pc lv (tI a :: st) h Q :=
  fun p l e R s m args below meth c H locs cells slots b0 G ls X hc hs hl hR hS => lv_if_le X.1 X.2.1 hd ht (fun q => kt ((tm_le ha inR0).mp q) p l e R s m args below meth c H locs cells slots b0 G ls X hc hs hl hR hS) (fun q => kf (fun z => q ((tm_le ha inR0).mpr z)) p l e R s m args below meth c H locs cells slots b0 G ls X hc hs hl hR hS)
theorem wa_tableOut {a dflt lo hi : Int} {offs : Array Int} {len : Nat} (tgt : Nat) (hd : decode M.2.1 pc = .ok (.tableswitch dflt lo hi offs, len)) (ha : inR a) (ho : a < lo ∨ hi < a) (ht : (pc : Int) + dflt = (tgt : Int)) (k : tmW M d bc bs tgt lv st h Q) : tmW M d bc bs pc lv (tI a :: st) h Q :=
  fun p l e R s m args below meth c H locs cells slots b0 G ls X hc hs hl hR hS => lv_tableOut X.1 X.2.1 hd (by rw [tm_toInt ha]; exact ho) ht (k p l e R s m args below meth c H locs cells slots b0 G ls X hc hs hl hR hS)
theorem wa_tableIn {a dflt lo hi off : Int} {offs : Array Int} {len : Nat} (tgt : Nat) (hd : decode M.2.1 pc = .ok (.tableswitch dflt lo hi offs, len)) (ha : inR a) (h1 : ¬ a < lo) (h2 : ¬ hi < a) (ho : offs[(a - lo).toNat]? = some off) (ht : (pc : Int) + off = (tgt : Int)) (k : tmW M d bc bs tgt lv st h Q) : tmW M d bc bs pc lv (tI a :: st) h Q :=
  fun p l e R s m args below meth c H locs cells slots b0 G ls X hc hs hl hR hS => lv_tableIn X.1 X.2.1 hd (by rw [tm_toInt ha]; exact h1) (by rw [tm_toInt ha]; exact h2) (by rw [tm_toInt ha]; exact ho) ht (k p l e R s m args below meth c H locs cells slots b0 G ls X hc hs hl hR hS)
theorem tm_end {b0 : Nat} {G : tmG} {s : State} {H : Heap} {locs : List Loc} {args : Array Value} {r : Option tmV} (hR : tmR b0 G h H) (hS : va_S (tmA b0) s.heap H locs) (hq : Q r h) : ∀ t : State, t.heap = H → s.WarmedH t.vm → tmQ b0 G Q args s (.returned (r.map (tmt b0))) t :=
  fun t ht _ => ⟨⟨r, h, rfl, hq, by rw [ht]; exact hR⟩, hS.F ht⟩
theorem wa_ireturn {a : Int} (hd : decode M.2.1 pc = .ok (.ireturn, 1)) (hr : M.2.2.2.1 = some .int) (hq : Q (some (tI a)) h) : tmW M d bc bs pc lv [tI a] h Q := by
  intro p l e R s m args below meth c H locs cells slots b0 G ls X hc hs hl hR hS
  have hlocks := X.2.2.2.2.1
  refine W.widen (k := R.cells) (n := R.slots) (by omega) (by omega) ?_
  exact W.iret X.1 X.2.1 (X.2.2.2.1.trans hr) (tm_end hR hS hq) hS.2.2 hd
theorem wa_zreturn {a : Int} (hd : decode M.2.1 pc = .ok (.ireturn, 1)) (hr : M.2.2.2.1 = some .boolean) (ha : a = 0 ∨ a = 1) (hq : Q (some (tI a)) h) : tmW M d bc bs pc lv [tI a] h Q := by
  intro p l e R s m args below meth c H locs cells slots b0 G ls X hc hs hl hR hS
  have hlocks := X.2.2.2.2.1
  refine W.widen (k := R.cells) (n := R.slots) (by omega) (by omega) ?_
  exact W.zret X.1 X.2.1 (X.2.2.2.1.trans hr) (by rcases ha with rfl | rfl <;> rfl) (tm_end hR hS hq) hS.2.2 hd
theorem wa_lreturn {a : Int64} (hd : decode M.2.1 pc = .ok (.lreturn, 1)) (hr : M.2.2.2.1 = some .long) (hq : Q (some (tL a)) h) : tmW M d bc bs pc lv [tL a] h Q := by
  intro p l e R s m args below meth c H locs cells slots b0 G ls X hc hs hl hR hS
  have hlocks := X.2.2.2.2.1
  refine W.widen (k := R.cells) (n := R.slots) (by omega) (by omega) ?_
  exact W.lret X.1 X.2.1 (X.2.2.2.1.trans hr) (tm_end hR hS hq) hS.2.2 hd
theorem wa_areturn {a : Nat} {C : String} (hd : decode M.2.1 pc = .ok (.areturn, 1)) (hr : M.2.2.2.1 = some (.object C)) (hq : Q (some (tR a)) h) : tmW M d bc bs pc lv [tR a] h Q := by
  intro p l e R s m args below meth c H locs cells slots b0 G ls X hc hs hl hR hS
  have hlocks := X.2.2.2.2.1
  refine W.widen (k := R.cells) (n := R.slots) (by omega) (by omega) ?_
  exact W.aret X.1 X.2.1 (X.2.2.2.1.trans hr) (Or.inl ⟨C, rfl⟩) (Or.inr ⟨_, rfl⟩) (tm_end hR hS hq) hS.2.2 hd
theorem wa_return (hd : decode M.2.1 pc = .ok (.return_, 1)) (hr : M.2.2.2.1 = none) (hq : Q none h) : tmW M d bc bs pc lv [] h Q := by
  intro p l e R s m args below meth c H locs cells slots b0 G ls X hc hs hl hR hS
  have hlocks := X.2.2.2.2.1
  refine W.widen (k := R.cells) (n := R.slots) (by omega) (by omega) ?_
  exact W.vret X.1 X.2.1 (X.2.2.2.1.trans hr) (tm_end hR hS hq) hS.2.2 hd
/-- what the heap holds is in range -/
theorem wa_ir (k : tmIR h.2.1 → tmW M d bc bs pc lv st h Q) : tmW M d bc bs pc lv st h Q :=
  fun p l e R s m args below meth c H locs cells slots b0 G ls X hc hs hl hR hS => k hR.2.2 p l e R s m args below meth c H locs cells slots b0 G ls X hc hs hl hR hS
/-- fewer wishes -/
theorem wa_budget {bc' bs' : Nat} (h1 : bc' ≤ bc) (h2 : bs' ≤ bs) (k : tmW M d bc' bs' pc lv st h Q) : tmW M d bc bs pc lv st h Q :=
  fun p l e R s m args below meth c H locs cells slots b0 G ls X hc hs hl hR hS => k p l e R s m args below meth c H locs cells slots b0 G ls X (by omega) (by omega) hl hR hS
end WR
end
section
/-! ===== 06: rows of fields and arrays ===== -/
def tmObj (S : tmS) (i ci : Nat) : Prop := i < S.1 ∧ S.2.1 i = ci
/-- an array of kind kd (13 int, 14 long, 15 Pattern, 16 State) with nn places -/
def tmArr (S : tmS) (i kd nn : Nat) : Prop := i < S.1 ∧ S.2.1 i = kd ∧ S.2.2.1 i = nn ∧ nn < 2147483648
def tmTy (ty : Nat) (ft : FieldType) : Bool := match ty, ft with
  | 0, .int => true
  | 1, .object _ => true
  | 1, .array _ => true
  | 2, .long => true
  | 3, .boolean => true
  | _, _ => false
def tmOKv (ty : Nat) (v : tmV) : Prop := match ty, v with
  | 0, .inl a => inR a
  | 1, .inr (.inr _) => True
  | 2, .inr (.inl _) => True
  | 3, .inl a => a = 0 ∨ a = 1
  | _, _ => False
theorem tmOKv.fits {b0 ty : Nat} {ft : FieldType} {v : tmV} (h1 : tmTy ty ft = true) (h2 : tmOKv ty v) : narrow ft (tmt b0 v) = tmt b0 v ∧ fits ft (tmt b0 v) = true := by
  match ty, ft, v, h1, h2 with
  | 0, .int, .inl _, _, _ => exact ⟨rfl, rfl⟩
  | 1, .object _, .inr (.inr _), _, _ => exact ⟨rfl, rfl⟩
  | 1, .array _, .inr (.inr _), _, _ => exact ⟨rfl, rfl⟩
  | 2, .long, .inr (.inl _), _, _ => exact ⟨rfl, rfl⟩
  | 3, .boolean, .inl a, _, h => rcases h with rfl | rfl <;> exact ⟨rfl, rfl⟩
/-- what is fixed of a class: its row of vwCl, its words, its fields' kinds -/
def tmCl (ci : Nat) (C : String) (T : u_T) (N : Nat) (t0 : Nat → FieldType) : Prop :=
  vwCl[ci]? = some (C, T, N) ∧ (∀ w ∈ u_ws C T N, w ∈ tmT) ∧ (∀ k, k < N → parseFieldDescriptor (T k).2.2.1 = some (t0 k)) ∧ (∀ a, a < N → ∀ b, b < N → a ≠ b → (T a).2.1 ≠ (T b).2.1) ∧ (∀ k, k < N → ∃ ty, (tmft ci)[k]? = some ty ∧ tmTy ty (t0 k) = true) ∧ (tmft ci).length = N ∧ ci < 13
def tmFL (own : String) (idx ci k ty : Nat) : Prop := ∃ (C : String) (T : u_T) (N : Nat) (t0 : Nat → FieldType), tmCl ci C T N t0 ∧ k < N ∧ Cond.fieldLink own idx (T k).1 (T k).2.1 (T k).2.2.1 ∈ tmT ∧ (tmft ci)[k]? = some ty
/-- it may be written: it isn't final, or we are in the class's own constructor -/
def tmFP (own : String) (ini : Bool) (ci k : Nat) : Prop := ∀ (C : String) (T : u_T) (N : Nat), vwCl[ci]? = some (C, T, N) → (T k).2.2.2 = false ∨ ((T k).2.2.2 = true ∧ ini = true ∧ (T k).1 = own)
def tmPut (h : tmH) (i k : Nat) : tmV → tmH
  | .inl a => (h.1, va_up h.2.1 i (va_up (h.2.1 i) k a), h.2.2)
  | .inr (.inl x) => (h.1, h.2.1, va_up h.2.2 i (va_up (h.2.2 i) k x))
  | .inr (.inr r) => ((h.1.1, h.1.2.1, h.1.2.2.1, va_up h.1.2.2.2 i (va_up (h.1.2.2.2 i) k (some r))), h.2.1, h.2.2)
theorem tmfs_get {b0 : Nat} {h : tmH} {i : Nat} (tys : List Nat) : ∀ (k0 k ty : Nat), tys[k]? = some ty → (tmfs b0 h i tys k0)[k]? = some (tmfv b0 h i ty (k0 + k)) := by
  induction tys with
  | nil => intro k0 k ty h; simp at h
  | cons a r ih =>
    intro k0 k ty hk
    cases k with
    | zero => simp at hk; subst hk; rfl
    | succ k => have := ih (k0 + 1) k ty (by simpa using hk); simp only [tmfs, List.getElem?_cons_succ]; rw [this]; congr 2; omega
theorem tmfs_len {b0 : Nat} {h : tmH} {i : Nat} (tys : List Nat) : ∀ (k0 : Nat), (tmfs b0 h i tys k0).length = tys.length := by
  induction tys with
  | nil => intro k0; rfl
  | cons a r ih => intro k0; simp [tmfs, ih]
theorem tmfs_ext {b0 : Nat} {h h' : tmH} {i i' : Nat} (tys : List Nat) : ∀ (k0 : Nat), (∀ k ty, tys[k]? = some ty → tmfv b0 h' i' ty (k0 + k) = tmfv b0 h i ty (k0 + k)) → tmfs b0 h' i' tys k0 = tmfs b0 h i tys k0 := by
  induction tys with
  | nil => intro k0 _; rfl
  | cons a r ih =>
    intro k0 hk
    simp only [tmfs]
    rw [ih (k0 + 1) (fun k ty h => by have := hk (k + 1) ty (by simpa using h); rw [show k0 + 1 + k = k0 + (k + 1) by omega]; exact this)]
    have := hk 0 a rfl
    rw [Nat.add_zero] at this
    rw [this]
theorem tmc_ext {b0 : Nat} {G : tmG} {h h' : tmH} {i : Nat} (e1 : h'.1.2.1 i = h.1.2.1 i) (e2 : h'.1.2.2.1 i = h.1.2.2.1 i) (e3 : h'.1.2.2.2 i = h.1.2.2.2 i) (e4 : h'.2.1 i = h.2.1 i) (e5 : h'.2.2 i = h.2.2 i) : tmc b0 G h' i = tmc b0 G h i := by
  simp only [tmc, e1, e2, e3, e4, e5]
  rw [tmfs_ext (h := h) (h' := h') (i := i) (i' := i) _ 0 (fun k ty _ => by simp only [tmfv, e3, e4, e5])]
theorem tmc_obj {b0 : Nat} {G : tmG} {h : tmH} {i ci : Nat} (hc : h.1.2.1 i = ci) (hl : ci < 13) : tmc b0 G h i = .inr (ci, tmfs b0 h i (tmft ci) 0) := by
  have h1 : ¬ ci = 13 := by omega
  have h2 : ¬ ci = 14 := by omega
  have h3 : ¬ ci = 15 := by omega
  have h4 : ¬ ci = 16 := by omega
  simp only [tmc, hc, h1, h2, h3, h4, if_false]
theorem tmc_i {b0 : Nat} {G : tmG} {h : tmH} {i : Nat} (hc : h.1.2.1 i = 13) : tmc b0 G h i = .inl (G.2.1, h.1.2.2.1 i, .inl (fun j => Int32.ofInt (h.2.1 i j))) := by simp [tmc, hc]
theorem tmc_l {b0 : Nat} {G : tmG} {h : tmH} {i : Nat} (hc : h.1.2.1 i = 14) : tmc b0 G h i = .inl (G.2.2.1, h.1.2.2.1 i, .inr (.inl (h.2.2 i))) := by simp [tmc, hc]
theorem tmc_p {b0 : Nat} {G : tmG} {h : tmH} {i : Nat} (hc : h.1.2.1 i = 15) : tmc b0 G h i = .inl (G.2.2.2.1, h.1.2.2.1 i, .inr (.inr (.inr (.inr (fun j => (h.1.2.2.2 i j).map (b0 + ·)))))) := by simp [tmc, hc]
theorem tmc_s {b0 : Nat} {G : tmG} {h : tmH} {i : Nat} (hc : h.1.2.1 i = 16) : tmc b0 G h i = .inl (G.2.2.2.2, h.1.2.2.1 i, .inr (.inr (.inr (.inr (fun j => (h.1.2.2.2 i j).map (b0 + ·)))))) := by simp [tmc, hc]
theorem tmw_get {b0 : Nat} {G : tmG} {h : tmH} {i : Nat} {x : va_E} (hi : i < h.1.1) (hx : tmc b0 G h i = x) : (tmw b0 G h)[i]? = some (b0 + i, x) := by
  subst hx
  simp [tmw, List.getElem?_map, List.getElem?_range hi]
theorem tmw_D {b0 : Nat} {G : tmG} {h : tmH} : va_D (tmA b0) (tmw b0 G h) := by
  have key : ∀ (k : Nat) (q : Nat × va_E), (tmw b0 G h)[k]? = some q → q.1 = b0 + k := by
    intro k q hk
    simp only [tmw, List.getElem?_map, Option.map_eq_some_iff] at hk
    obtain ⟨a, h1, rfl⟩ := hk
    have := List.getElem?_eq_some_iff.mp h1
    obtain ⟨h2, h3⟩ := this
    simp at h3
    simp [h3]
  refine ⟨fun i j p q hi hj hpq => ?_, fun k q hk => ?_⟩
  · have := key i p hi; have := key j q hj; omega
  · have := key k q hk; show b0 ≤ q.1; omega
theorem tmw_set {b0 : Nat} {G : tmG} {h h' : tmH} {i : Nat} {x : va_E} (hn : h'.1.1 = h.1.1) (hx : tmc b0 G h' i = x) (ho : ∀ j, j ≠ i → tmc b0 G h' j = tmc b0 G h j) : (tmw b0 G h).set i (b0 + i, x) = tmw b0 G h' := by
  subst hx
  apply List.ext_getElem?
  intro k
  simp only [tmw, hn, List.getElem?_set, List.getElem?_map, List.length_map, List.length_range]
  by_cases hk : i = k
  · subst hk
    by_cases hl : i < h.1.1
    · simp [hl, List.getElem?_range hl]
    · simp [hl]
  · simp only [hk, if_false]
    by_cases hl : k < h.1.1
    · simp [List.getElem?_range hl, ho k (fun e => hk e.symm)]
    · simp [hl]
theorem tmR.put {b0 : Nat} {G : tmG} {h h' : tmH} {H H1 : Heap} {i : Nat} {x : va_E} (hR : tmR b0 G h H) (hz : H1.size = H.size) (hP : va_P G.1 vwCl ((tmw b0 G h).set i (b0 + i, x)) H1) (hn : h'.1.1 = h.1.1) (hx : tmc b0 G h' i = x) (ho : ∀ j, j ≠ i → tmc b0 G h' j = tmc b0 G h j) (hir : tmIR h'.2.1) : tmR b0 G h' H1 := by
  rw [tmw_set hn hx ho] at hP
  exact ⟨by rw [hz, hR.1, hn], hP, hir⟩
theorem vup_s {α : Type} {f : Nat → α} {k : Nat} {v : α} : va_up f k v k = v := by simp [va_up]
theorem vup_n {α : Type} {f : Nat → α} {k j : Nat} {v : α} (h : j ≠ k) : va_up f k v j = f j := by simp [va_up, h]
theorem tmPut_n {h : tmH} {i k : Nat} {v : tmV} : (tmPut h i k v).1.1 = h.1.1 ∧ (tmPut h i k v).1.2.1 = h.1.2.1 ∧ (tmPut h i k v).1.2.2.1 = h.1.2.2.1 := by rcases v with v | v | v <;> exact ⟨rfl, rfl, rfl⟩
theorem tmPut_o {b0 : Nat} {G : tmG} {h : tmH} {i k j : Nat} {v : tmV} (hj : j ≠ i) : tmc b0 G (tmPut h i k v) j = tmc b0 G h j := by
  rcases v with v | v | v
  · exact tmc_ext rfl rfl rfl (vup_n hj) rfl
  · exact tmc_ext rfl rfl rfl rfl (vup_n hj)
  · exact tmc_ext rfl rfl (vup_n hj) rfl rfl
theorem tmPut_v {b0 : Nat} {h : tmH} {i k ty ty' j : Nat} {v : tmV} (hv : tmOKv ty v) (ht : k = j → ty' = ty) : tmfv b0 (tmPut h i k v) i ty' j = if k = j then tmt b0 v else tmfv b0 h i ty' j := by
  by_cases hk : k = j
  · subst hk
    have e := ht rfl
    subst e
    simp only [if_true]
    match ty', v, hv with
    | 0, .inl _, _ => simp [tmfv, tmPut, va_up, tmt]
    | 1, .inr (.inr _), _ => simp [tmfv, tmPut, va_up, tmt, va_rf]
    | 2, .inr (.inl _), _ => simp [tmfv, tmPut, va_up, tmt]
    | 3, .inl a, _ => simp [tmfv, tmPut, va_up, tmt]
  · have hk' : ¬ j = k := fun e => hk e.symm
    simp only [hk, if_false]
    rcases v with v | v | v <;> simp [tmfv, tmPut, va_up, hk']
theorem tmfs_set {b0 : Nat} {h : tmH} {i k ty : Nat} {v : tmV} (hv : tmOKv ty v) (tys : List Nat) : ∀ (k0 j : Nat), k = k0 + j → tys[j]? = some ty → (tmfs b0 h i tys k0).set j (tmt b0 v) = tmfs b0 (tmPut h i k v) i tys k0 := by
  induction tys with
  | nil => intro k0 j _ h; simp at h
  | cons a r ih =>
    intro k0 j hk hj
    cases j with
    | zero =>
      simp at hj
      subst hj
      simp only [tmfs, List.set_cons_zero]
      rw [tmPut_v hv (fun _ => rfl), if_pos (by omega)]
      congr 1
      refine (tmfs_ext r (k0 + 1) (fun k' ty' _ => ?_)).symm
      rw [tmPut_v hv (fun e => by omega), if_neg (by omega)]
    | succ j =>
      simp only [tmfs, List.set_cons_succ]
      rw [ih (k0 + 1) j (by omega) (by simpa using hj)]
      congr 1
      rw [tmPut_v hv (fun e => by omega), if_neg (by omega)]
theorem tmPut_ir {h : tmH} {i k ty : Nat} {v : tmV} (hv : tmOKv ty v) (hi : tmIR h.2.1) : tmIR (tmPut h i k v).2.1 := by
  match ty, v, hv with
  | 0, .inl _, hv => exact hi.up hv
  | 1, .inr (.inr _), _ => exact hi
  | 2, .inr (.inl _), _ => exact hi
  | 3, .inl a, hv => exact hi.up (by rcases hv with rfl | rfl <;> exact ⟨by decide, by decide⟩)
theorem tmPut_i {b0 : Nat} {G : tmG} {h : tmH} {i k ci ty : Nat} {v : tmV} (hc : h.1.2.1 i = ci) (hl : ci < 13) (hv : tmOKv ty v) (ht : (tmft ci)[k]? = some ty) : tmc b0 G (tmPut h i k v) i = .inr (ci, (tmfs b0 h i (tmft ci) 0).set k (tmt b0 v)) := by
  rw [tmc_obj (ci := ci) (by rw [tmPut_n.2.1]; exact hc) hl, tmfs_set (k := k) hv (tmft ci) 0 k (by omega) ht]
theorem va_S.size_le {A : Nat → Prop} {H0 H : Heap} {locs : List Loc} (h : va_S A H0 H locs) : H0.size ≤ H.size := h.1
section WH
variable {M : tmMS} {d bc bs pc : Nat} {lv : List (Option tmV)} {st : List tmV} {h : tmH} {Q : Option tmV → tmH → Prop}
theorem wa_get {idx ci k ty i : Nat} {v : tmV} (hd : decode M.2.1 pc = .ok (.getfield idx, 3)) (hf : tmFL M.1 idx ci k ty) (ho : tmObj h.1 i ci) (hv : ∀ b0, tmfv b0 h i ty k = tmt b0 v) (kk : tmW M d bc bs (pc + 3) lv (v :: st) h Q) : tmW M d bc bs pc lv (tR i :: st) h Q := by
  intro p l e R s m args below meth c H locs cells slots b0 G ls X hc hs hl hR hS
  obtain ⟨C, T, N, t0, ⟨c1, c2, c3, c4, c5, c6, c7⟩, f1, f2, f3⟩ := hf
  have hts := X.2.2.2.2.2.2.1
  refine va_get X.1 X.2.1 hts c2 X.2.2.2.2.2.1 X.2.2.2.2.2.2.2.1.1 hR.2.1 i (tmw_get ho.1 (tmc_obj ho.2 c7)) c1 k f1 (hts _ f2) (fun _ z => z) (v := tmt b0 v) ?_ hd (kk p l e R s m args below meth c H locs cells slots b0 G ls X hc hs hl hR hS)
  rw [tmfs_get _ 0 k ty f3, Nat.zero_add, hv b0]
theorem wa_getI {idx ci k i : Nat} (hd : decode M.2.1 pc = .ok (.getfield idx, 3)) (hf : tmFL M.1 idx ci k 0) (ho : tmObj h.1 i ci) (kk : tmW M d bc bs (pc + 3) lv (tI (h.2.1 i k) :: st) h Q) : tmW M d bc bs pc lv (tR i :: st) h Q := wa_get hd hf ho (fun _ => rfl) kk
theorem wa_getZ {idx ci k i : Nat} (hd : decode M.2.1 pc = .ok (.getfield idx, 3)) (hf : tmFL M.1 idx ci k 3) (ho : tmObj h.1 i ci) (kk : tmW M d bc bs (pc + 3) lv (tI (h.2.1 i k) :: st) h Q) : tmW M d bc bs pc lv (tR i :: st) h Q := wa_get hd hf ho (fun _ => rfl) kk
theorem wa_getL {idx ci k i : Nat} (hd : decode M.2.1 pc = .ok (.getfield idx, 3)) (hf : tmFL M.1 idx ci k 2) (ho : tmObj h.1 i ci) (kk : tmW M d bc bs (pc + 3) lv (tL (h.2.2 i k) :: st) h Q) : tmW M d bc bs pc lv (tR i :: st) h Q := wa_get hd hf ho (fun _ => rfl) kk
theorem wa_getR {idx ci k i a : Nat} (hd : decode M.2.1 pc = .ok (.getfield idx, 3)) (hf : tmFL M.1 idx ci k 1) (ho : tmObj h.1 i ci) (hr : h.1.2.2.2 i k = some a) (kk : tmW M d bc bs (pc + 3) lv (tR a :: st) h Q) : tmW M d bc bs pc lv (tR i :: st) h Q := wa_get hd hf ho (fun b0 => by simp [tmfv, hr, tmt, va_rf]) kk
theorem tmR.upd {b0 : Nat} {G : tmG} {h' : tmH} {H H1 : Heap} {i : Nat} (hR : tmR b0 G h H) (hi : i < h.1.1) (hz : H1.size = H.size) (oq : ∀ q : Nat, q ≠ b0 + i → H1[q]? = H[q]?) (hn : h'.1.1 = h.1.1) (hx : va_at G.1 vwCl (b0 + i, tmc b0 G h' i) H1) (ho : ∀ j, j ≠ i → tmc b0 G h' j = tmc b0 G h j) (hir : tmIR h'.2.1) : tmR b0 G h' H1 :=
  hR.put hz (hR.2.1.set tmw_D (tmw_get hi rfl) hx oq) hn rfl ho hir
/-- a put into a field, of whatever kind -/
theorem wa_put {idx ci k ty i : Nat} {v : tmV} (hd : decode M.2.1 pc = .ok (.putfield idx, 3)) (hf : tmFL M.1 idx ci k ty) (hp : tmFP M.1 M.2.2.2.2 ci k) (ho : tmObj h.1 i ci) (hv : tmOKv ty v) (kk : tmW M d bc bs (pc + 3) lv st (tmPut h i k v) Q) : tmW M d bc bs pc lv (v :: tR i :: st) h Q := by
  intro p l e R s m args below meth c H locs cells slots b0 G ls X hc hs hl hR hS
  obtain ⟨C, T, N, t0, ⟨c1, c2, c3, c4, c5, c6, c7⟩, f1, f2, f3⟩ := hf
  have hts := X.2.2.2.2.2.2.1
  have hK := X.2.2.2.2.2.2.2.1.1
  obtain ⟨ty', g1, g2⟩ := c5 k f1
  obtain rfl : ty' = ty := Option.some.inj (g1.symm.trans f3)
  have hfit := hv.fits (b0 := b0) g2
  have he := tmw_get (b0 := b0) (G := G) ho.1 (tmc_obj ho.2 c7)
  have hap := va_apart (own := M.1) hts c2 t0 c3 c4 hK c1
  obtain ⟨r, q0, cell, q1, q2, q3, q4⟩ := hR.2.1 i _ he
  obtain rfl : r = (C, T, N) := Option.some.inj (q0.symm.trans c1)
  obtain ⟨hSl, hfc, kC, hkC, hkind⟩ := hK.1 ci _ c1
  obtain ⟨cf, kf, fi, f, hi, hsl⟩ := hSl k f1
  have hlay := hts _ (c2 _ (u_in_lay f1))
  have hst := (u_facts hfc hkC (u_lays hts c2 f1) hi).1
  have fin : ∀ (H' : Heap), H'[b0 + i]? = some (cell.setSlot f.slot (tmt b0 v)) → H'.size = H.size → (∀ q, q ≠ b0 + i → H'[q]? = H[q]?) → W p l e R s m args below meth c H' (locs ++ [⟨b0 + i, f.slot⟩]) cells slots (MQ below (tmQ b0 G Q) args s R.cells R.slots (tmA b0)) (F0 m (pc + 3) ls (st.map (tmt b0))) := by
    intro H' e1 e2 e3
    rw [hsl] at e1
    refine kk p l e R s m args below meth c H' _ cells slots b0 G ls X hc hs hl (hR.upd ho.1 e2 e3 tmPut_n.1 ?_ (fun j hj => tmPut_o hj) (tmPut_ir hv hR.2.2)) (hS.put e2 e3 (show b0 ≤ b0 + i by omega))
    rw [tmPut_i ho.2 c7 hv f3]
    exact ⟨_, c1, t_OB.to (V := updV (vp_V (tmfs b0 h i (tmft ci) 0)) k (tmt b0 v)) ⟨_, e1, q2, q3, t_set q4 hap f1 (tmt b0 v)⟩ (fun j _ => vp_updV_set (by rw [tmfs_len, c6]; exact f1) (tmt b0 v) j)⟩
  have hlt : f.slot < cell.slots.size := by rw [hsl]; exact k2_hasslot (q4 k f1)
  unfold u_lay at hlay
  rcases hp C T N c1 with hfin | ⟨hfin, hini, hdecl⟩
  · rw [if_neg (by rw [hfin]; decide)] at hlay
    exact W.putK X.1 X.2.1 (f := f) ⟨X.2.2.2.2.2.1, hts _ f2, ⟨_, _, _, hi⟩, hst⟩ (by rw [q2]; exact u_store hfc hkC hkind hlay hi (c3 k f1) hfit.1 hfit.2) q1 q3 hlt rfl rfl hd fin
  · rw [if_pos hfin] at hlay
    have hcf : m.cls = cf := by
      obtain ⟨_, _, c', _, _, _, -, -, hf', -, -, -, hown2, -⟩ := Cond.laysFinal_spec hlay
      have e1 : c' = cf := by have := hi.symm.trans hf'; simp at this; exact this.1.symm
      rw [hdecl] at hown2
      rw [← e1]; exact Option.some.inj (X.2.2.2.2.2.1.symm.trans hown2)
    exact W.putFinK X.1 X.2.1 X.2.2.2.2.2.1 (hts _ f2) hi hst hcf (X.2.2.2.2.2.2.2.2.2.2.2 hini) (by rw [q2]; exact u_fits hfc hkC hkind (Or.inr hlay) hi (c3 k f1) hfit.1 hfit.2) q1 q3 hlt rfl rfl hd fin
theorem wa_putI {idx ci k i : Nat} {a : Int} (hd : decode M.2.1 pc = .ok (.putfield idx, 3)) (hf : tmFL M.1 idx ci k 0) (hp : tmFP M.1 M.2.2.2.2 ci k) (ho : tmObj h.1 i ci) (hx : inR a) (kk : tmW M d bc bs (pc + 3) lv st (h.1, va_up h.2.1 i (va_up (h.2.1 i) k a), h.2.2) Q) : tmW M d bc bs pc lv (tI a :: tR i :: st) h Q := wa_put hd hf hp ho hx kk
theorem wa_putZ {idx ci k i : Nat} {a : Int} (hd : decode M.2.1 pc = .ok (.putfield idx, 3)) (hf : tmFL M.1 idx ci k 3) (hp : tmFP M.1 M.2.2.2.2 ci k) (ho : tmObj h.1 i ci) (ha : a = 0 ∨ a = 1) (kk : tmW M d bc bs (pc + 3) lv st (h.1, va_up h.2.1 i (va_up (h.2.1 i) k a), h.2.2) Q) : tmW M d bc bs pc lv (tI a :: tR i :: st) h Q := wa_put hd hf hp ho ha kk
theorem wa_putL {idx ci k i : Nat} {a : Int64} (hd : decode M.2.1 pc = .ok (.putfield idx, 3)) (hf : tmFL M.1 idx ci k 2) (hp : tmFP M.1 M.2.2.2.2 ci k) (ho : tmObj h.1 i ci) (kk : tmW M d bc bs (pc + 3) lv st (h.1, h.2.1, va_up h.2.2 i (va_up (h.2.2 i) k a)) Q) : tmW M d bc bs pc lv (tL a :: tR i :: st) h Q := wa_put hd hf hp ho trivial kk
theorem wa_putR {idx ci k i a : Nat} (hd : decode M.2.1 pc = .ok (.putfield idx, 3)) (hf : tmFL M.1 idx ci k 1) (hp : tmFP M.1 M.2.2.2.2 ci k) (ho : tmObj h.1 i ci) (kk : tmW M d bc bs (pc + 3) lv st ((h.1.1, h.1.2.1, h.1.2.2.1, va_up h.1.2.2.2 i (va_up (h.1.2.2.2 i) k (some a))), h.2.1, h.2.2) Q) : tmW M d bc bs pc lv (tR a :: tR i :: st) h Q := wa_put hd hf hp ho trivial kk
-- arrays
theorem tm_in {a : Int} {j nn : Nat} (ha : a = (j : Int)) (hj : j < nn) (hn : nn < 2147483648) : vp_in (Int32.ofInt a) nn ∧ (Int32.ofInt a).toNatClampNeg = j := by
  subst ha
  have e : Int32.ofInt (j : Int) = nI j := rfl
  rw [e]
  exact ⟨vp_in_nI hj hn, nI_clamp (by omega)⟩
theorem wa_iald {i nn : Nat} {a : Int} (j : Nat) (hd : decode M.2.1 pc = .ok (.iaload, 1)) (ho : tmArr h.1 i 13 nn) (ha : a = (j : Int)) (hj : j < nn) (kk : tmW M d bc bs (pc + 1) lv (tI (h.2.1 i j) :: st) h Q) : tmW M d bc bs pc lv (tI a :: tR i :: st) h Q := by
  intro p l e R s m args below meth c H locs cells slots b0 G ls X hc hs hl hR hS
  obtain ⟨o1, o2, o3, o4⟩ := ho
  obtain ⟨a1, a2⟩ := tm_in ha hj o4
  refine va_iald X.1 X.2.1 X.2.2.2.2.2.2.2.1.1 hR.2.1 i 0 (tmw_get o1 (tmc_i o2)) rfl (by rw [o3]; exact a1) hd ?_
  rw [a2]
  exact kk p l e R s m args below meth c H locs cells slots b0 G ls X hc hs hl hR hS
theorem wa_lald {i nn : Nat} {a : Int} (j : Nat) (hd : decode M.2.1 pc = .ok (.laload, 1)) (ho : tmArr h.1 i 14 nn) (ha : a = (j : Int)) (hj : j < nn) (kk : tmW M d bc bs (pc + 1) lv (tL (h.2.2 i j) :: st) h Q) : tmW M d bc bs pc lv (tI a :: tR i :: st) h Q := by
  intro p l e R s m args below meth c H locs cells slots b0 G ls X hc hs hl hR hS
  obtain ⟨o1, o2, o3, o4⟩ := ho
  obtain ⟨a1, a2⟩ := tm_in ha hj o4
  refine va_lald X.1 X.2.1 X.2.2.2.2.2.2.2.1.1 hR.2.1 i 1 (tmw_get o1 (tmc_l o2)) rfl (by rw [o3]; exact a1) hd ?_
  rw [a2]
  exact kk p l e R s m args below meth c H locs cells slots b0 G ls X hc hs hl hR hS
theorem wa_aaldP {i nn x : Nat} {a : Int} (j : Nat) (hd : decode M.2.1 pc = .ok (.aaload, 1)) (ho : tmArr h.1 i 15 nn) (ha : a = (j : Int)) (hj : j < nn) (hr : h.1.2.2.2 i j = some x) (kk : tmW M d bc bs (pc + 1) lv (tR x :: st) h Q) : tmW M d bc bs pc lv (tI a :: tR i :: st) h Q := by
  intro p l e R s m args below meth c H locs cells slots b0 G ls X hc hs hl hR hS
  obtain ⟨o1, o2, o3, o4⟩ := ho
  obtain ⟨a1, a2⟩ := tm_in ha hj o4
  refine va_aldq X.1 X.2.1 X.2.2.2.2.2.2.2.1.1 hR.2.1 i 2 (tmw_get o1 (tmc_p o2)) rfl (by rw [o3]; exact a1) hd ?_
  rw [a2, hr]
  exact kk p l e R s m args below meth c H locs cells slots b0 G ls X hc hs hl hR hS
theorem wa_aaldS {i nn x : Nat} {a : Int} (j : Nat) (hd : decode M.2.1 pc = .ok (.aaload, 1)) (ho : tmArr h.1 i 16 nn) (ha : a = (j : Int)) (hj : j < nn) (hr : h.1.2.2.2 i j = some x) (kk : tmW M d bc bs (pc + 1) lv (tR x :: st) h Q) : tmW M d bc bs pc lv (tI a :: tR i :: st) h Q := by
  intro p l e R s m args below meth c H locs cells slots b0 G ls X hc hs hl hR hS
  obtain ⟨o1, o2, o3, o4⟩ := ho
  obtain ⟨a1, a2⟩ := tm_in ha hj o4
  refine va_aldq X.1 X.2.1 X.2.2.2.2.2.2.2.1.1 hR.2.1 i 3 (tmw_get o1 (tmc_s o2)) rfl (by rw [o3]; exact a1) hd ?_
  rw [a2, hr]
  exact kk p l e R s m args below meth c H locs cells slots b0 G ls X hc hs hl hR hS
theorem wa_alen {i kd nn : Nat} (hd : decode M.2.1 pc = .ok (.arraylength, 1)) (ho : tmArr h.1 i kd nn) (hk : kd = 13 ∨ kd = 14) (kk : tmW M d bc bs (pc + 1) lv (tI (nn : Int) :: st) h Q) : tmW M d bc bs pc lv (tR i :: st) h Q := by
  intro p l e R s m args below meth c H locs cells slots b0 G ls X hc hs hl hR hS
  obtain ⟨o1, o2, o3, o4⟩ := ho
  have k2 := kk p l e R s m args below meth c H locs cells slots b0 G ls X hc hs hl hR hS
  rcases hk with rfl | rfl
  · exact va_alen X.1 X.2.1 X.2.2.2.2.2.2.2.1.1 hR.2.1 i 0 (tmw_get o1 (tmc_i o2)) rfl (v := Int32.ofInt (nn : Int)) (by rw [← o3]; rfl) hd k2
  · exact va_alen X.1 X.2.1 X.2.2.2.2.2.2.2.1.1 hR.2.1 i 1 (tmw_get o1 (tmc_l o2)) rfl (v := Int32.ofInt (nn : Int)) (by rw [← o3]; rfl) hd k2
theorem wa_iast {i nn : Nat} {a x : Int} (j : Nat) (hd : decode M.2.1 pc = .ok (.iastore, 1)) (ho : tmArr h.1 i 13 nn) (ha : a = (j : Int)) (hj : j < nn) (hx : inR x) (kk : tmW M d bc bs (pc + 1) lv st (h.1, va_up h.2.1 i (va_up (h.2.1 i) j x), h.2.2) Q) : tmW M d bc bs pc lv (tI x :: tI a :: tR i :: st) h Q := by
  intro p l e R s m args below meth c H locs cells slots b0 G ls X hc hs hl hR hS
  obtain ⟨o1, o2, o3, o4⟩ := ho
  obtain ⟨a1, a2⟩ := tm_in ha hj o4
  have hcell := hR.2.1 i _ (tmw_get o1 (tmc_i o2))
  have harr := X.2.2.2.2.2.2.2.1.1.2 0 _ rfl
  refine W.iast X.1 X.2.1 hcell (harr.1 _ (fun j => .int (Int32.ofInt (h.2.1 i j)))) (fun q => by cases q) (by show ¬ (_ ∨ (arrV _ _ _).slots.size ≤ _); rw [arrV_size, o3]; exact a1) rfl rfl hd fun H1 e z oq => ?_
  refine kk p l _ R s m args below meth c H1 _ cells slots b0 G ls X hc hs hl (hR.upd o1 z oq rfl ?_ (fun q hq => tmc_ext rfl rfl rfl (vup_n hq) rfl) (hR.2.2.up hx)) (hS.put z oq (show b0 ≤ b0 + i by omega))
  rw [tmc_i (h := (h.1, va_up h.2.1 i (va_up (h.2.1 i) j x), h.2.2)) o2]
  show H1[b0 + i]? = some (vp_cell _ _)
  rw [e, a2]
  show some ((vp_cell _ (_, Sum.inl _)).setSlot _ _) = _
  rw [vp_cell_i, vp_cell_i, arrV_store]
  congr 2
  funext q
  by_cases hq : q = j
  · subst hq; simp [updV, va_up]
  · simp [updV, va_up, hq]
theorem wa_last {i nn : Nat} {a : Int} {x : Int64} (j : Nat) (hd : decode M.2.1 pc = .ok (.lastore, 1)) (ho : tmArr h.1 i 14 nn) (ha : a = (j : Int)) (hj : j < nn) (kk : tmW M d bc bs (pc + 1) lv st (h.1, h.2.1, va_up h.2.2 i (va_up (h.2.2 i) j x)) Q) : tmW M d bc bs pc lv (tL x :: tI a :: tR i :: st) h Q := by
  intro p l e R s m args below meth c H locs cells slots b0 G ls X hc hs hl hR hS
  obtain ⟨o1, o2, o3, o4⟩ := ho
  obtain ⟨a1, a2⟩ := tm_in ha hj o4
  have hcell := hR.2.1 i _ (tmw_get o1 (tmc_l o2))
  have harr := X.2.2.2.2.2.2.2.1.1.2 1 _ rfl
  refine W.last X.1 X.2.1 hcell (harr.1 _ (fun j => .long (h.2.2 i j))) (fun q => by cases q) (by show ¬ (_ ∨ (arrV _ _ _).slots.size ≤ _); rw [arrV_size, o3]; exact a1) rfl rfl hd fun H1 e z oq => ?_
  refine kk p l _ R s m args below meth c H1 _ cells slots b0 G ls X hc hs hl (hR.upd o1 z oq rfl ?_ (fun q hq => tmc_ext rfl rfl rfl rfl (vup_n hq)) hR.2.2) (hS.put z oq (show b0 ≤ b0 + i by omega))
  rw [tmc_l (h := (h.1, h.2.1, va_up h.2.2 i (va_up (h.2.2 i) j x))) o2]
  show H1[b0 + i]? = some (vp_cell _ _)
  rw [e, a2]
  show some ((vp_cell _ (_, Sum.inr (Sum.inl _))).setSlot _ _) = _
  rw [vp_cell_l, vp_cell_l, arrV_store]
  congr 2
  funext q
  by_cases hq : q = j
  · subst hq; simp [updV, va_up]
  · simp [updV, va_up, hq]
end WH
end
section
/-! ===== 07: stores of references, new cells, calls ===== -/
def tmNew (h : tmH) (kd len : Nat) : tmH := ((h.1.1 + 1, va_up h.1.2.1 h.1.1 kd, va_up h.1.2.2.1 h.1.1 len, va_up h.1.2.2.2 h.1.1 (fun _ => none)), va_up h.2.1 h.1.1 (fun _ => 0), va_up h.2.2 h.1.1 (fun _ => 0))
theorem tmNew_o {b0 : Nat} {G : tmG} {h : tmH} {kd len j : Nat} (hj : j ≠ h.1.1) : tmc b0 G (tmNew h kd len) j = tmc b0 G h j := tmc_ext (vup_n hj) (vup_n hj) (vup_n hj) (vup_n hj) (vup_n hj)
theorem tmw_new {b0 : Nat} {G : tmG} {h : tmH} {kd len : Nat} : tmw b0 G (tmNew h kd len) = tmw b0 G h ++ [(b0 + h.1.1, tmc b0 G (tmNew h kd len) h.1.1)] := by
  have e : (tmNew h kd len).1.1 = h.1.1 + 1 := rfl
  simp only [tmw, e, List.range_succ, List.map_append, List.map_cons, List.map_nil]
  congr 1
  apply List.map_congr_left
  intro j hj
  have := List.mem_range.mp hj
  rw [tmNew_o (by omega)]
theorem tmR.new {b0 : Nat} {G : tmG} {h : tmH} {H H1 : Heap} {kd len : Nat} (hR : tmR b0 G h H) (hz : H1.size = H.size + 1) (oq : ∀ q : Nat, q < H.size → H1[q]? = H[q]?) (hx : va_at G.1 vwCl (b0 + h.1.1, tmc b0 G (tmNew h kd len) h.1.1) H1) : tmR b0 G (tmNew h kd len) H1 := by
  refine ⟨by rw [hz, hR.1]; rfl, ?_, hR.2.2.row (fun _ => ⟨by decide, by decide⟩)⟩
  rw [tmw_new]
  refine (hR.2.1.kept (fun k x hk => oq x.1 ((hR.2.1 k x hk).lt))).app (fun k x hk => ?_)
  have hz : k < 1 := (List.getElem?_eq_some_iff.mp hk).1
  rw [show k = 0 by omega] at hk
  cases hk
  exact hx
theorem va_S.grow {A : Nat → Prop} {H0 H H1 : Heap} {locs : List Loc} (h : va_S A H0 H locs) (z : H1.size = H.size + 1) (o : ∀ q : Nat, q < H.size → H1[q]? = H[q]?) : va_S A H0 H1 locs :=
  ⟨Nat.le_trans h.1 (by omega), fun x h1 h2 => (o x (Nat.lt_of_lt_of_le h1 h.1)).trans (h.2.1 x h1 h2), h.2.2⟩
theorem tm_dflt {b0 ty : Nat} {ft : FieldType} {h : tmH} {kd len k : Nat} (ht : tmTy ty ft = true) : defaultValue ft = tmfv b0 (tmNew h kd len) h.1.1 ty k := by
  match ty, ft, ht with
  | 0, .int, _ => simp [tmfv, tmNew, va_up, defaultValue]
  | 1, .object _, _ => simp [tmfv, tmNew, va_up, defaultValue, va_rf]
  | 1, .array _, _ => simp [tmfv, tmNew, va_up, defaultValue, va_rf]
  | 2, .long, _ => simp [tmfv, tmNew, va_up, defaultValue]
  | 3, .boolean, _ => simp [tmfv, tmNew, va_up, defaultValue]
section WC
variable {M : tmMS} {d bc bs pc : Nat} {lv : List (Option tmV)} {st : List tmV} {h : tmH} {Q : Option tmV → tmH → Prop}
theorem wa_new {idx ci N bc' bs' : Nat} {C : String} {T : u_T} {t0 : Nat → FieldType} (hd : decode M.2.1 pc = .ok (.new idx, 3)) (hcl : tmCl ci C T N t0) (hlk : Cond.classLink M.1 idx C ∈ tmT) (hins : Cond.instantiable C N ∈ tmT) (hini : Cond.initialized C ∈ tmT) (h1 : bc' + 1 = bc) (h2 : bs' + N = bs)
    (kk : tmW M d bc' bs' (pc + 3) lv (tR h.1.1 :: st) (tmNew h ci 0) Q) : tmW M d bc bs pc lv st h Q := by
  intro p l e R s m args below meth c H locs cells slots b0 G ls X hc hs hl hR hS
  obtain ⟨c1, c2, c3, c4, c5, c6, c7⟩ := hcl
  have hts := X.2.2.2.2.2.2.1
  have hKn := X.2.2.2.2.2.2.2.1.1.1 ci _ c1
  refine W.newcK X.1 X.2.1 X.2.2.2.2.2.1 (hts _ hlk) (hts _ hins) (hts _ hini) rfl hd (by omega) (by omega) hKn.2.1 (h := b0 + h.1.1) hR.1 fun H1 kC hkC e1 z1 o1 => ?_
  have z1' : H1.size = H.size + 1 := by rw [z1, hR.1]
  have o1' : ∀ q : Nat, q < H.size → H1[q]? = H[q]? := fun q hq => o1 q (by rw [← hR.1]; exact hq)
  refine kk p l e R s m args below meth c H1 locs (cells + 1) (slots + N) b0 G ls X (by omega) (by omega) hl (hR.new z1' o1' ?_) (hS.grow z1' o1')
  rw [tmc_obj (ci := ci) (by simp [tmNew, va_up]) c7]
  refine ⟨_, c1, (u_born t0 hts c2 hKn hkC e1 c3).to (fun k hk => ?_)⟩
  obtain ⟨ty, g1, g2⟩ := c5 k hk
  rw [tm_dflt (b0 := b0) (h := h) (kd := ci) (len := 0) (k := k) g2]
  have := tmfs_get (b0 := b0) (h := tmNew h ci 0) (i := h.1.1) (tmft ci) 0 k ty g1
  rw [Nat.zero_add] at this
  simp [vp_V, List.getD_eq_getElem?_getD, this]
theorem wa_newaI {bc' bs' nn : Nat} {a : Int} (hd : decode M.2.1 pc = .ok (.newarray .int, 2)) (hw : Cond.arrayClass (newarray.typeOf .int) ∈ tmT) (ha : a = (nn : Int)) (hn : nn < 100000000) (h1 : bc' + 1 = bc) (h2 : bs' + nn = bs)
    (kk : tmW M d bc' bs' (pc + 2) lv (tR h.1.1 :: st) (tmNew h 13 nn) Q) : tmW M d bc bs pc lv (tI a :: st) h Q := by
  intro p l e R s m args below meth c H locs cells slots b0 G ls X hc hs hl hR hS
  subst ha
  have hts := X.2.2.2.2.2.2.1
  have hnI : Int32.ofInt (nn : Int) = nI nn := rfl
  refine va_newaK X.1 X.2.1 (atype := .int) (hts _ hw) rfl hd (n := Int32.ofInt (nn : Int)) (N := nn) rfl (by rw [hnI]; exact nI_pos (by omega)) (by rw [hnI]; exact nI_clamp (by omega)) (by show nn * 4 ≤ _; omega) (by omega) (by omega) (h := b0 + h.1.1) hR.1 fun H1 cA e1 z1 o1 hAr hNm => ?_
  have z1' : H1.size = H.size + 1 := by rw [z1, hR.1]
  have o1' : ∀ q : Nat, q < H.size → H1[q]? = H[q]? := fun q hq => o1 q (by rw [← hR.1]; exact hq)
  have hcA : cA = G.2.1 := Option.some.inj (hNm.symm.trans (X.2.2.2.2.2.2.2.1.1.2 0 _ rfl).2)
  refine kk p l e R s m args below meth c H1 locs (cells + 1) (slots + nn) b0 G ls X (by omega) (by omega) hl (hR.new z1' o1' ?_) (hS.grow z1' o1')
  rw [tmc_i (by simp [tmNew, va_up])]
  show H1[b0 + h.1.1]? = some (vp_cell _ _)
  rw [e1, vp_cell_i, hcA]
  simp [tmNew, va_up]
  rfl
theorem wa_newaL {bc' bs' nn : Nat} {a : Int} (hd : decode M.2.1 pc = .ok (.newarray .long, 2)) (hw : Cond.arrayClass (newarray.typeOf .long) ∈ tmT) (ha : a = (nn : Int)) (hn : nn < 50000000) (h1 : bc' + 1 = bc) (h2 : bs' + nn = bs)
    (kk : tmW M d bc' bs' (pc + 2) lv (tR h.1.1 :: st) (tmNew h 14 nn) Q) : tmW M d bc bs pc lv (tI a :: st) h Q := by
  intro p l e R s m args below meth c H locs cells slots b0 G ls X hc hs hl hR hS
  subst ha
  have hts := X.2.2.2.2.2.2.1
  have hnI : Int32.ofInt (nn : Int) = nI nn := rfl
  refine va_newaK X.1 X.2.1 (atype := .long) (hts _ hw) rfl hd (n := Int32.ofInt (nn : Int)) (N := nn) rfl (by rw [hnI]; exact nI_pos (by omega)) (by rw [hnI]; exact nI_clamp (by omega)) (by show nn * 8 ≤ _; omega) (by omega) (by omega) (h := b0 + h.1.1) hR.1 fun H1 cA e1 z1 o1 hAr hNm => ?_
  have z1' : H1.size = H.size + 1 := by rw [z1, hR.1]
  have o1' : ∀ q : Nat, q < H.size → H1[q]? = H[q]? := fun q hq => o1 q (by rw [← hR.1]; exact hq)
  have hcA : cA = G.2.2.1 := Option.some.inj (hNm.symm.trans (X.2.2.2.2.2.2.2.1.1.2 1 _ rfl).2)
  refine kk p l e R s m args below meth c H1 locs (cells + 1) (slots + nn) b0 G ls X (by omega) (by omega) hl (hR.new z1' o1' ?_) (hS.grow z1' o1')
  rw [tmc_l (by simp [tmNew, va_up])]
  show H1[b0 + h.1.1]? = some (vp_cell _ _)
  rw [e1, vp_cell_l, hcA]
  simp [tmNew, va_up]
  rfl
theorem wa_anewP {idx bc' bs' nn : Nat} {a : Int} (hd : decode M.2.1 pc = .ok (.anewarray idx, 3)) (hw : Cond.classLink M.1 idx RX2 ∈ tmT) (ha : a = (nn : Int)) (hn : nn < 100000000) (h1 : bc' + 1 = bc) (h2 : bs' + nn = bs)
    (kk : tmW M d bc' bs' (pc + 3) lv (tR h.1.1 :: st) (tmNew h 15 nn) Q) : tmW M d bc bs pc lv (tI a :: st) h Q := by
  intro p l e R s m args below meth c H locs cells slots b0 G ls X hc hs hl hR hS
  subst ha
  have hts := X.2.2.2.2.2.2.1
  have hnI : Int32.ofInt (nn : Int) = nI nn := rfl
  have hcl : (Int32.ofInt (nn : Int)).toNatClampNeg = nn := by rw [hnI]; exact nI_clamp (by omega)
  refine W.anew X.1 X.2.1 X.2.2.2.2.2.1 (hts _ hw) (va_AO.use X.2.2.2.2.2.2.2.1.2.1) rfl hd (n := Int32.ofInt (nn : Int)) rfl (by rw [hnI]; exact nI_pos (by omega)) (by rw [hcl]; omega) (by omega) (by rw [hcl]; omega) fun cA kA comp f1 f2 f3 f4 => ?_
  rw [hcl, hR.1]
  generalize hH1 : H.push ({ cls := cA, slots := Array.replicate nn .null, vm := .none } : Cell) = H1
  have z1' : H1.size = H.size + 1 := by rw [← hH1, Array.size_push]
  have o1' : ∀ q : Nat, q < H.size → H1[q]? = H[q]? := fun q hq => by rw [← hH1, Array.getElem?_push, if_neg (Nat.ne_of_lt hq)]
  obtain ⟨_, _, _, _, _, k4⟩ := (X.2.2.2.2.2.2.2.1.1.2 2 _ rfl).2
  have hcA : cA = G.2.2.2.1 := Option.some.inj (f1.symm.trans k4)
  refine kk p l e R s m args below meth c H1 locs (cells + 1) (slots + nn) b0 G ls X (by omega) (by omega) hl (hR.new z1' o1' ?_) (hS.grow z1' o1')
  rw [tmc_p (by simp [tmNew, va_up])]
  show H1[b0 + h.1.1]? = some (vp_cell _ _)
  rw [← hH1, ← hR.1, Array.getElem?_push_size, vp_cell_q, hcA, arrV_new]
  simp [tmNew, va_up, va_rf]
theorem wa_anewS {idx bc' bs' nn : Nat} {a : Int} (hd : decode M.2.1 pc = .ok (.anewarray idx, 3)) (hw : Cond.classLink M.1 idx RX6 ∈ tmT) (ha : a = (nn : Int)) (hn : nn < 100000000) (h1 : bc' + 1 = bc) (h2 : bs' + nn = bs)
    (kk : tmW M d bc' bs' (pc + 3) lv (tR h.1.1 :: st) (tmNew h 16 nn) Q) : tmW M d bc bs pc lv (tI a :: st) h Q := by
  intro p l e R s m args below meth c H locs cells slots b0 G ls X hc hs hl hR hS
  subst ha
  have hts := X.2.2.2.2.2.2.1
  have hnI : Int32.ofInt (nn : Int) = nI nn := rfl
  have hcl : (Int32.ofInt (nn : Int)).toNatClampNeg = nn := by rw [hnI]; exact nI_clamp (by omega)
  refine W.anew X.1 X.2.1 X.2.2.2.2.2.1 (hts _ hw) (va_AO.use X.2.2.2.2.2.2.2.1.2.2.1) rfl hd (n := Int32.ofInt (nn : Int)) rfl (by rw [hnI]; exact nI_pos (by omega)) (by rw [hcl]; omega) (by omega) (by rw [hcl]; omega) fun cA kA comp f1 f2 f3 f4 => ?_
  rw [hcl, hR.1]
  generalize hH1 : H.push ({ cls := cA, slots := Array.replicate nn .null, vm := .none } : Cell) = H1
  have z1' : H1.size = H.size + 1 := by rw [← hH1, Array.size_push]
  have o1' : ∀ q : Nat, q < H.size → H1[q]? = H[q]? := fun q hq => by rw [← hH1, Array.getElem?_push, if_neg (Nat.ne_of_lt hq)]
  obtain ⟨_, _, _, _, _, k4⟩ := (X.2.2.2.2.2.2.2.1.1.2 3 _ rfl).2
  have hcA : cA = G.2.2.2.2 := Option.some.inj (f1.symm.trans k4)
  refine kk p l e R s m args below meth c H1 locs (cells + 1) (slots + nn) b0 G ls X (by omega) (by omega) hl (hR.new z1' o1' ?_) (hS.grow z1' o1')
  rw [tmc_s (by simp [tmNew, va_up])]
  show H1[b0 + h.1.1]? = some (vp_cell _ _)
  rw [← hH1, ← hR.1, Array.getElem?_push_size, vp_cell_q, hcA, arrV_new]
  simp [tmNew, va_up, va_rf]
/-- a reference into an array: of Patterns (15, 2), of States (16, 6) -/
theorem wa_aast {i nn v kd ci : Nat} {a : Int} (j : Nat) (hd : decode M.2.1 pc = .ok (.aastore, 1)) (hkd : (kd = 15 ∧ ci = 2) ∨ (kd = 16 ∧ ci = 6)) (ho : tmArr h.1 i kd nn) (hv : tmObj h.1 v ci) (ha : a = (j : Int)) (hj : j < nn)
    (kk : tmW M d bc bs (pc + 1) lv st ((h.1.1, h.1.2.1, h.1.2.2.1, va_up h.1.2.2.2 i (va_up (h.1.2.2.2 i) j (some v))), h.2.1, h.2.2) Q) : tmW M d bc bs pc lv (tR v :: tI a :: tR i :: st) h Q := by
  intro p l e R s m args below meth c H locs cells slots b0 G ls X hc hs hl hR hS
  obtain ⟨o1, o2, o3, o4⟩ := ho
  obtain ⟨a1, a2⟩ := tm_in ha hj o4
  have hK := X.2.2.2.2.2.2.2.1.1
  have hlt : (Int32.ofInt a).toNatClampNeg < nn := Nat.not_le.mp fun q => a1 (Or.inr q)
  have h0 : ¬ Int32.ofInt a < 0 := fun q => a1 (Or.inl q)
  have go : ∀ (cA : ClassId) (r : vw_C), vwCl[ci]? = some r → ci < 13 → tmc b0 G h i = .inl (cA, h.1.2.2.1 i, .inr (.inr (.inr (.inr (fun j => (h.1.2.2.2 i j).map (b0 + ·)))))) →
      tmc b0 G ((h.1.1, h.1.2.1, h.1.2.2.1, va_up h.1.2.2.2 i (va_up (h.1.2.2.2 i) j (some v))), h.2.1, h.2.2) i = .inl (cA, h.1.2.2.1 i, .inr (.inr (.inr (.inr (fun j' => (va_up (h.1.2.2.2 i) j (some v) j').map (b0 + ·)))))) → va_RA s cA (.object r.1) →
      W p l e R s m args below meth c H locs cells slots (MQ below (tmQ b0 G Q) args s R.cells R.slots (tmA b0)) (F0 m pc ls ((tR v :: tI a :: tR i :: st).map (tmt b0))) := by
    intro cA r hr hci t1 t2 hra
    obtain ⟨r', hr', cellV, g1, g2, g3, -⟩ := hR.2.1 v _ (tmw_get hv.1 (tmc_obj hv.2 hci))
    have hcls := (hK.1 ci r hr).2
    obtain ⟨kA, comp, k1, k2, k3, -⟩ := hra
    have hcomp : comp = G.1.1 ci := Option.some.inj (k3.symm.trans hcls.1)
    subst hcomp
    obtain ⟨kC, hkC, -⟩ := hcls.2
    have hcell := hR.2.1 i _ (tmw_get o1 t1)
    refine W.aast X.1 X.2.1 hcell (fun q h => by cases h) (fun h => by cases h) k1 k2 rfl hkC ⟨h0, by show _ < (arrV _ _ _).slots.size; rw [arrV_size, o3]; exact hlt⟩ g1 (fun q h => by rw [g3] at h; cases h) (by rw [g2]; exact hkC) (by rw [g2]; exact va_assign hcls) rfl rfl hd fun H1 e z oq => ?_
    refine kk p l _ R s m args below meth c H1 _ cells slots b0 G ls X hc hs hl (hR.upd o1 z oq rfl ?_ (fun q hq => tmc_ext rfl rfl (vup_n hq) rfl rfl) hR.2.2) (hS.put z oq (show b0 ≤ b0 + i by omega))
    rw [t2]
    show H1[b0 + i]? = some (vp_cell _ _)
    rw [e, a2]
    show some ((vp_cell _ (_, Sum.inr (Sum.inr (Sum.inr (Sum.inr _))))).setSlot _ _) = _
    rw [vp_cell_q, vp_cell_q, arrV_store]
    congr 2
    funext q
    by_cases hq : q = j
    · subst hq; simp [updV, va_up, va_rf]
    · simp [updV, va_up, hq]
  rcases hkd with ⟨rfl, rfl⟩ | ⟨rfl, rfl⟩
  · exact go G.2.2.2.1 (RX2, TX2, 6) rfl (by omega) (tmc_p o2) (by rw [tmc_p (h := ((h.1.1, h.1.2.1, h.1.2.2.1, va_up h.1.2.2.2 i (va_up (h.1.2.2.2 i) j (some v))), h.2.1, h.2.2)) o2]; simp [va_up]) (hK.2 2 _ rfl).2
  · exact go G.2.2.2.2 (RX6, TX6, 4) rfl (by omega) (tmc_s o2) (by rw [tmc_s (h := ((h.1.1, h.1.2.1, h.1.2.2.1, va_up h.1.2.2.2 i (va_up (h.1.2.2.2 i) j (some v))), h.2.1, h.2.2)) o2]; simp [va_up]) (hK.2 3 _ rfl).2
theorem wa_objInit {idx i : Nat} (hd : decode M.2.1 pc = .ok (.invokespecial idx, 3)) (hl : Cond.methodLink M.1 idx Lib.objectInit ∈ tmT) (h1 : Cond.instanceMethod Lib.objectInit ∈ tmT) (h2 : Cond.code Lib.objectInit ⟨#[0xb1]⟩ 1 none ∈ tmT) (hdp : 1 ≤ d) (hcat : (st.map fun v => if tmIsL (some v) then 2 else 1).sum ≤ 8)
    (kk : tmW M d bc bs (pc + 3) lv st h Q) : tmW M d bc bs pc lv (tR i :: st) h Q := by
  intro p l e R s m args below meth c H locs cells slots b0 G ls X hc hs hl' hR hS
  have hts := X.2.2.2.2.2.2.1
  have hcat' : ((st.map (tmt b0)).map fun v => v.category).sum ≤ 8 := by
    rw [List.map_map]
    have e : (fun v => v.category) ∘ tmt b0 = fun v => if tmIsL (some v) then 2 else 1 := by funext v; exact tmt_cat b0 v
    rw [e]; exact hcat
  refine W.objInit X.1 X.2.1 X.2.2.2.2.2.1 (hts _ hl) (hts _ h1) (hts _ h2) rfl (by rw [X.2.2.1]; exact hl'.1) rfl hd (by have := X.2.2.2.2.2.2.2.2.1; omega) ?_ (kk p l e R s m args below meth c H locs cells slots b0 G ls X hc hs hl' hR hS)
  have := X.2.2.2.2.2.2.2.2.2.1
  have hr := lv_room (m := m) (pc := pc) (ls := ls) (rest := (st.map (tmt b0))) hcat'
  show 2 * (F0 m pc ls _).monitorRoom + _ + 12 ≤ _
  have e : (F0 m pc ls (List.map (tmt b0) (tR i :: st))).monitorRoom = (F0 m pc ls (st.map (tmt b0))).monitorRoom := rfl
  rw [e]
  omega
end WC
end
section
/-! ===== 08: calls ===== -/
def tmPush : Option tmV → List tmV → List tmV
  | some v, l => v :: l
  | none, l => l
abbrev tmF (v : Option tmV) (h : tmH) : Option tmV → tmH → Prop := fun r h' => r = v ∧ h' = h
/-- a method that can be called: its words -/
def tmKW (y : MethodName) (My : tmMS) (n : Nat) : Prop :=
  Cond.code y My.2.1 My.2.2.1 My.2.2.2.1 ∈ tmT ∧ Cond.initialized y.cls ∈ tmT ∧ (y.cls ≠ "java/lang/invoke/MethodHandle" ∧ y.cls ≠ "java/lang/invoke/VarHandle" ∧ (parseMethodDescriptor y.desc).map (fun d => d.parameters.length) = some n) ∧ My.2.2.1 ≤ 45
def tmKV (y : MethodName) (My : tmMS) (n : Nat) : Prop := tmKW y My n ∧ Cond.instanceMethod y ∈ tmT ∧ Cond.selects y.cls y y ∈ tmT
def tmKS (y : MethodName) (My : tmMS) (n : Nat) : Prop := tmKW y My n ∧ Cond.static y ∈ tmT
def tmKI (y : MethodName) (My : tmMS) (n : Nat) : Prop := tmKW y My n ∧ Cond.instanceMethod y ∈ tmT ∧ y.name = "<init>" ∧ My.2.2.2.1 = none
theorem tm_blind {b0 : Nat} {G : tmG} {av : List tmV} {h : tmH} : FrameBlind (tmP b0 G av h) := fun a U g mk q => ⟨q.1, tmE.blind g mk a q.2.1, q.2.2⟩
theorem tm_goodC {y : MethodName} {My : tmMS} {n : Nat} (hk : tmKW y My n) : GoodIn tmT (tmWs y My) := fun w hw => by
  rcases List.mem_cons.mp hw with rfl | h
  · exact tmT_good _ hk.1
  · exact tmT_good _ h
theorem tm_cat {b0 : Nat} {st : List tmV} (h : (st.map fun v => if tmIsL (some v) then 2 else 1).sum ≤ 8) : ((st.map (tmt b0)).map fun v => v.category).sum ≤ 8 := by
  rw [List.map_map]
  have e : (fun v => v.category) ∘ tmt b0 = fun v => if tmIsL (some v) then 2 else 1 := by funext v; exact tmt_cat b0 v
  rw [e]; exact h
theorem tm_push {b0 : Nat} (r : Option tmV) (st : List tmV) : (r.map (tmt b0)).toList ++ st.map (tmt b0) = (tmPush r st).map (tmt b0) := by cases r <;> rfl
section WI
variable {M : tmMS} {d bc bs pc : Nat} {lv : List (Option tmV)} {st : List tmV} {h : tmH} {Q : Option tmV → tmH → Prop}
variable {y : MethodName} {My : tmMS} {n idx d' mc ms bc' bs' : Nat} {av : List tmV} {Qc : Option tmV → tmH → Prop}
theorem tm_cont {p : Program} {l : Launch} {e : Env} {R : Room} {s : State} {m : MethodId} {args : Array Value} {below : List Frame} {meth : Method} {c : Code} {H : Heap} {locs : List Loc} {cells slots b0 : Nat} {G : tmG} {ls : Array Slot} {st0 : List Value} {a : Array Value} {Z : State → Prop}
    (hr : va_Run p l e R s m args below meth c H locs cells slots mc ms (F0 m pc ls st0) (st.map (tmt b0)) (tmQ b0 G Qc a) (tmA b0)) (hS : va_S (tmA b0) s.heap H locs)
    (kk : ∀ (r : Option tmV) (h' : tmH) (H1 : Heap) (locs1 : List Loc), Qc r h' → tmR b0 G h' H1 → va_S (tmA b0) s.heap H1 locs1 → W p l e R s m args below meth c H1 locs1 (cells + mc) (slots + ms) Z (F0 m (pc + 3) ls ((tmPush r st).map (tmt b0)))) : W p l e R s m args below meth c H locs cells slots Z (F0 m pc ls st0) := by
  intro T hT X
  obtain ⟨v, st₀, t, T', L, h0, X', hL, e1, e2, ⟨⟨r, h', hv, hq, hR⟩, hz, hk⟩, stp⟩ := hr T hT X
  rw [h0] at hz hk
  have hv' : v = r.map (tmt b0) := by cases hv; rfl
  subst hv'
  obtain ⟨t2, a1, b1⟩ := kk r h' T'.heap (locs ++ L) hq (by rw [e1]; exact hR) ⟨Nat.le_trans hS.1 (by rw [e1]; exact hz), fun q h1 h2 => by rw [e1, hk q (Nat.lt_of_lt_of_le h1 hS.1) h2]; exact hS.2.1 q h1 h2, fun q hq => by
      rcases List.mem_append.mp hq with h | h
      · exact hS.2.2 q h
      · exact hL q h⟩ T' rfl X'
  rw [← tm_push] at a1
  exact ⟨t2, stp t2 a1, b1⟩
theorem wa_callV {i ci : Nat} (hd : decode M.2.1 pc = .ok (.invokevirtual idx, 3)) (hk : tmKV y My n) (hl : Cond.methodLink M.1 idx y ∈ tmT) (hci : ∃ T N, vwCl[ci]? = some (y.cls, T, N) ∧ ci < 13) (ho : tmObj h.1 i ci) (hC : tmC y My d' mc ms (tR i :: av) h Qc) (hdp : d' < d) (hn : av.length = n) (hcat : (st.map fun v => if tmIsL (some v) then 2 else 1).sum ≤ 8) (h1 : bc' + mc = bc) (h2 : bs' + ms = bs)
    (kk : ∀ (r : Option tmV) (h' : tmH), Qc r h' → tmW M d bc' bs' (pc + 3) lv (tmPush r st) h' Q) : tmW M d bc bs pc lv (av.reverse ++ tR i :: st) h Q := by
  intro p l e R s m args below meth c H locs cells slots b0 G ls X hc hs hl' hR hS
  have hts := X.2.2.2.2.2.2.1
  obtain ⟨T, N, c1, c7⟩ := hci
  have hK := X.2.2.2.2.2.2.2.1.1
  have hd1 := X.2.2.2.2.2.2.2.2.1
  have hd2 := X.2.2.2.2.2.2.2.2.2.1
  have hmx := hk.1.2.2.2
  have cw : CallW R s args M.1 y.cls idx y My.2.1 My.2.2.1 My.2.2.2.1 (tmWs y My) (tmRm d' mc ms) mc ms n :=
    ⟨callB_of n hts (tm_goodC hk.1) rfl rfl rfl (hts _ hk.1.2.1) (hts _ hl) hk.1.2.2.1 ⟨by show d' + 1 ≤ _; omega, by show 8 + (My.2.2.1 + 11) + 64 * d' ≤ _; omega⟩, hts _ hk.2.1, hts _ hk.2.2⟩
  have hrun := va_runV (b := b0 + i) (As := av.map (tmt b0)) (rest := st.map (tmt b0)) (g := F0 m pc ls ((av.reverse ++ tR i :: st).map (tmt b0))) (cells := cells) (slots := slots) (locs := locs) (below := below) (e := e) (meth := meth) (H := H) ⟨X.1, X.2.1, X.2.2.1, X.2.2.2.2.2.1, hts⟩ (hC l b0 G) cw
    ⟨tm_blind, va_recv hK hR.2.1 c1 (tmw_get ho.1 (tmc_obj ho.2 c7)), fun U hU hW => ⟨rfl, X.2.2.2.2.2.2.2.1.go hW hU hS, by rw [hU]; exact hR⟩⟩ rfl (by rw [List.length_map]; exact hn) hl'.1 (by simp [tmt]) (lv_room (m := m) (pc := pc) (ls := ls) (rest := []) (tm_cat hcat)) hd ⟨by omega, by omega⟩
  exact tm_cont hrun hS (fun r h' H1 locs1 hq hR1 hS1 => kk r h' hq p l e R s m args below meth c H1 locs1 (cells + mc) (slots + ms) b0 G ls X (by omega) (by omega) hl' hR1 hS1)
theorem wa_callS (hd : decode M.2.1 pc = .ok (.invokestatic idx, 3)) (hk : tmKS y My n) (hl : Cond.methodLink M.1 idx y ∈ tmT) (hC : tmC y My d' mc ms av h Qc) (hdp : d' < d) (hn : av.length = n) (hcat : (st.map fun v => if tmIsL (some v) then 2 else 1).sum ≤ 8) (h1 : bc' + mc = bc) (h2 : bs' + ms = bs)
    (kk : ∀ (r : Option tmV) (h' : tmH), Qc r h' → tmW M d bc' bs' (pc + 3) lv (tmPush r st) h' Q) : tmW M d bc bs pc lv (av.reverse ++ st) h Q := by
  intro p l e R s m args below meth c H locs cells slots b0 G ls X hc hs hl' hR hS
  have hts := X.2.2.2.2.2.2.1
  have hK := X.2.2.2.2.2.2.2.1.1
  have hd1 := X.2.2.2.2.2.2.2.2.1
  have hd2 := X.2.2.2.2.2.2.2.2.2.1
  have hmx := hk.1.2.2.2
  have cw : CallB R s args M.1 idx y My.2.1 My.2.2.1 My.2.2.2.1 (tmWs y My) (tmRm d' mc ms) mc ms n ∧ (Cond.static y).before args s = true :=
    ⟨callB_of n hts (tm_goodC hk.1) rfl rfl rfl (hts _ hk.1.2.1) (hts _ hl) hk.1.2.2.1 ⟨by show d' + 1 ≤ _; omega, by show 8 + (My.2.2.1 + 11) + 64 * d' ≤ _; omega⟩, hts _ hk.2⟩
  have hrun := va_runS (As := av.map (tmt b0)) (rest := st.map (tmt b0)) (g := F0 m pc ls ((av.reverse ++ st).map (tmt b0))) (cells := cells) (slots := slots) (locs := locs) (below := below) (e := e) (meth := meth) (H := H) ⟨X.1, X.2.1, X.2.2.1, X.2.2.2.2.2.1, hts⟩ (hC l b0 G) cw
    ⟨tm_blind, fun U hU hW => ⟨rfl, X.2.2.2.2.2.2.2.1.go hW hU hS, by rw [hU]; exact hR⟩⟩ rfl (by rw [List.length_map]; exact hn) hl'.1 (by simp) (lv_room (m := m) (pc := pc) (ls := ls) (rest := []) (tm_cat hcat)) hd ⟨by omega, by omega⟩
  exact tm_cont hrun hS (fun r h' H1 locs1 hq hR1 hS1 => kk r h' hq p l e R s m args below meth c H1 locs1 (cells + mc) (slots + ms) b0 G ls X (by omega) (by omega) hl' hR1 hS1)
theorem wa_callI {i : Nat} (hd : decode M.2.1 pc = .ok (.invokespecial idx, 3)) (hk : tmKI y My n) (hl : Cond.methodLink M.1 idx y ∈ tmT) (hC : tmC y My d' mc ms (tR i :: av) h Qc) (hdp : d' < d) (hn : av.length = n) (hcat : (st.map fun v => if tmIsL (some v) then 2 else 1).sum ≤ 8) (h1 : bc' + mc = bc) (h2 : bs' + ms = bs)
    (kk : ∀ (r : Option tmV) (h' : tmH), Qc r h' → tmW M d bc' bs' (pc + 3) lv (tmPush r st) h' Q) : tmW M d bc bs pc lv (av.reverse ++ tR i :: st) h Q := by
  intro p l e R s m args below meth c H locs cells slots b0 G ls X hc hs hl' hR hS
  have hts := X.2.2.2.2.2.2.1
  have hd1 := X.2.2.2.2.2.2.2.2.1
  have hd2 := X.2.2.2.2.2.2.2.2.2.1
  have hmx := hk.1.2.2.2
  have hno := hk.2.2.2
  have hws : tmWs y My = Cond.code y My.2.1 My.2.2.1 none :: tmT := by rw [tmWs, hno]
  have cw := cwI (R := R) (own := M.1) (index := idx) (mc := mc) (ms := ms) (rm := tmRm d' mc ms) n hts (tm_goodC hk.1) hws rfl rfl (hts _ hk.1.2.1) (hts _ hl) (hts _ hk.2.1) hk.2.2.1 hk.1.2.2.1 ⟨by show d' + 1 ≤ _; omega, by show 8 + (My.2.2.1 + 11) + 64 * d' ≤ _; omega⟩
  have hrun := va_runI (b := b0 + i) (As := av.map (tmt b0)) (rest := st.map (tmt b0)) (g := F0 m pc ls ((av.reverse ++ tR i :: st).map (tmt b0))) (cells := cells) (slots := slots) (locs := locs) (below := below) (e := e) (meth := meth) (H := H) ⟨X.1, X.2.1, X.2.2.1, X.2.2.2.2.2.1, hts⟩ (hC l b0 G) cw
    ⟨tm_blind, fun U hU hW => ⟨rfl, X.2.2.2.2.2.2.2.1.go hW hU hS, by rw [hU]; exact hR⟩⟩ rfl (by rw [List.length_map]; exact hn) hl'.1 (by simp [tmt]) (lv_room (m := m) (pc := pc) (ls := ls) (rest := []) (tm_cat hcat)) hd ⟨by omega, by omega⟩
  exact tm_cont hrun hS (fun r h' H1 locs1 hq hR1 hS1 => kk r h' hq p l e R s m args below meth c H1 locs1 (cells + mc) (slots + ms) b0 G ls X (by omega) (by omega) hl' hR1 hS1)
/-- a nest mate's private constructor -/
theorem wa_callIN {i : Nat} {host : String} (hd : decode M.2.1 pc = .ok (.invokespecial idx, 3)) (hk : tmKI y My n) (hl : ∀ (b0 : Nat) (G : tmG) (s : State), tmE b0 G s → va_Nw (.methodLinkNest M.1 idx y host) s) (hC : tmC y My d' mc ms (tR i :: av) h Qc) (hdp : d' < d) (hn : av.length = n) (hcat : (st.map fun v => if tmIsL (some v) then 2 else 1).sum ≤ 8) (h1 : bc' + mc = bc) (h2 : bs' + ms = bs)
    (kk : ∀ (r : Option tmV) (h' : tmH), Qc r h' → tmW M d bc' bs' (pc + 3) lv (tmPush r st) h' Q) : tmW M d bc bs pc lv (av.reverse ++ tR i :: st) h Q := by
  intro p l e R s m args below meth c H locs cells slots b0 G ls X hc hs hl' hR hS
  have hts := X.2.2.2.2.2.2.1
  have hd1 := X.2.2.2.2.2.2.2.2.1
  have hd2 := X.2.2.2.2.2.2.2.2.2.1
  have hmx := hk.1.2.2.2
  have hno := hk.2.2.2
  have hws : tmWs y My = Cond.code y My.2.1 My.2.2.1 none :: tmT := by rw [tmWs, hno]
  have cw := va_cnB (R := R) (args := args) (own := M.1) (index := idx) (host := host) (mc := mc) (ms := ms) (rm := tmRm d' mc ms) n hts (tm_goodC hk.1) hws rfl rfl (hl b0 G s X.2.2.2.2.2.2.2.1) (hts _ hk.1.2.1) hk.1.2.2.1 ⟨by show d' + 1 ≤ _; omega, by show 8 + (My.2.2.1 + 11) + 64 * d' ≤ _; omega⟩
  have hrun := va_runIN (b := b0 + i) (As := av.map (tmt b0)) (rest := st.map (tmt b0)) (g := F0 m pc ls ((av.reverse ++ tR i :: st).map (tmt b0))) (cells := cells) (slots := slots) (locs := locs) (below := below) (e := e) (meth := meth) (H := H) ⟨X.1, X.2.1, X.2.2.1, X.2.2.2.2.2.1, hts⟩ (hC l b0 G) ⟨cw, hk.2.2.1, hts _ hk.2.1⟩
    ⟨tm_blind, fun U hU hW => ⟨rfl, X.2.2.2.2.2.2.2.1.go hW hU hS, by rw [hU]; exact hR⟩⟩ rfl (by rw [List.length_map]; exact hn) hl'.1 (by simp [tmt]) (lv_room (m := m) (pc := pc) (ls := ls) (rest := []) (tm_cat hcat)) hd ⟨by omega, by omega⟩
  exact tm_cont hrun hS (fun r h' H1 locs1 hq hR1 hS1 => kk r h' hq p l e R s m args below meth c H1 locs1 (cells + mc) (slots + ms) b0 G ls X (by omega) (by omega) hl' hR1 hS1)
-- a contract whose answer and heap are told
theorem wa_callVf {i ci : Nat} {v : Option tmV} {h2 : tmH} {st' : List tmV} (hd : decode M.2.1 pc = .ok (.invokevirtual idx, 3)) (hk : tmKV y My n) (hl : Cond.methodLink M.1 idx y ∈ tmT) (hci : ∃ T N, vwCl[ci]? = some (y.cls, T, N) ∧ ci < 13) (ho : tmObj h.1 i ci) (hC : tmC y My d' mc ms (tR i :: av) h (tmF v h2)) (hdp : d' < d) (hn : av.length = n) (hst : st' = av.reverse ++ tR i :: st) (hcat : (st.map fun v => if tmIsL (some v) then 2 else 1).sum ≤ 8) (e1 : bc' + mc = bc) (e2 : bs' + ms = bs)
    (kk : tmW M d bc' bs' (pc + 3) lv (tmPush v st) h2 Q) : tmW M d bc bs pc lv st' h Q := by
  subst hst
  exact wa_callV hd hk hl hci ho hC hdp hn hcat e1 e2 (fun r h' hq => by obtain ⟨rfl, rfl⟩ := hq; exact kk)
theorem wa_callSf {v : Option tmV} {h2 : tmH} {st' : List tmV} (hd : decode M.2.1 pc = .ok (.invokestatic idx, 3)) (hk : tmKS y My n) (hl : Cond.methodLink M.1 idx y ∈ tmT) (hC : tmC y My d' mc ms av h (tmF v h2)) (hdp : d' < d) (hn : av.length = n) (hst : st' = av.reverse ++ st) (hcat : (st.map fun v => if tmIsL (some v) then 2 else 1).sum ≤ 8) (e1 : bc' + mc = bc) (e2 : bs' + ms = bs)
    (kk : tmW M d bc' bs' (pc + 3) lv (tmPush v st) h2 Q) : tmW M d bc bs pc lv st' h Q := by
  subst hst
  exact wa_callS hd hk hl hC hdp hn hcat e1 e2 (fun r h' hq => by obtain ⟨rfl, rfl⟩ := hq; exact kk)
theorem wa_callIf {i : Nat} {v : Option tmV} {h2 : tmH} {st' : List tmV} (hd : decode M.2.1 pc = .ok (.invokespecial idx, 3)) (hk : tmKI y My n) (hl : Cond.methodLink M.1 idx y ∈ tmT) (hC : tmC y My d' mc ms (tR i :: av) h (tmF v h2)) (hdp : d' < d) (hn : av.length = n) (hst : st' = av.reverse ++ tR i :: st) (hcat : (st.map fun v => if tmIsL (some v) then 2 else 1).sum ≤ 8) (e1 : bc' + mc = bc) (e2 : bs' + ms = bs)
    (kk : tmW M d bc' bs' (pc + 3) lv (tmPush v st) h2 Q) : tmW M d bc bs pc lv st' h Q := by
  subst hst
  exact wa_callI hd hk hl hC hdp hn hcat e1 e2 (fun r h' hq => by obtain ⟨rfl, rfl⟩ := hq; exact kk)
/-- another wish of the end -/
theorem tmC.weaken {Q2 : Option tmV → tmH → Prop} (hC : tmC y My d mc ms av h Q) (hq : ∀ r h', Q r h' → Q2 r h') : tmC y My d mc ms av h Q2 := by
  intro l b0 G
  have := hC l b0 G
  unfold Met at this ⊢
  intro p e ha hc hk s m args below hf happ hP hT
  obtain ⟨k, o, h1, h2, h3, hQ⟩ := this p e ha hc hk s m args below hf happ hP hT
  obtain ⟨⟨⟨r, h', w1, w2, w3⟩, w4⟩, w5⟩ := hQ
  exact ⟨k, o, h1, h2, h3, ⟨⟨r, h', w1, hq r h' w2, w3⟩, w4⟩, w5⟩
end WI
end
section
/-! ===== 08b: the rows over a heap told by its parts; arraycopy ===== -/
section WT
variable {M : tmMS} {d bc bs pc : Nat} {lv : List (Option tmV)} {st : List tmV} {S : tmS} {I : Nat → Nat → Int} {L : Nat → Nat → Int64} {Q : Option tmV → tmH → Prop}
theorem wt_ir (k : tmIR I → tmW M d bc bs pc lv st (S, I, L) Q) : tmW M d bc bs pc lv st (S, I, L) Q := wa_ir k
theorem wt_getI {idx ci k i : Nat} (hd : decode M.2.1 pc = .ok (.getfield idx, 3)) (hf : tmFL M.1 idx ci k 0) (ho : tmObj S i ci) (kk : tmW M d bc bs (pc + 3) lv (tI (I i k) :: st) (S, I, L) Q) : tmW M d bc bs pc lv (tR i :: st) (S, I, L) Q := wa_getI hd hf ho kk
theorem wt_getZ {idx ci k i : Nat} (hd : decode M.2.1 pc = .ok (.getfield idx, 3)) (hf : tmFL M.1 idx ci k 3) (ho : tmObj S i ci) (kk : tmW M d bc bs (pc + 3) lv (tI (I i k) :: st) (S, I, L) Q) : tmW M d bc bs pc lv (tR i :: st) (S, I, L) Q := wa_getZ hd hf ho kk
theorem wt_getL {idx ci k i : Nat} (hd : decode M.2.1 pc = .ok (.getfield idx, 3)) (hf : tmFL M.1 idx ci k 2) (ho : tmObj S i ci) (kk : tmW M d bc bs (pc + 3) lv (tL (L i k) :: st) (S, I, L) Q) : tmW M d bc bs pc lv (tR i :: st) (S, I, L) Q := wa_getL hd hf ho kk
theorem wt_getR {idx ci k i a : Nat} (hd : decode M.2.1 pc = .ok (.getfield idx, 3)) (hf : tmFL M.1 idx ci k 1) (ho : tmObj S i ci) (hr : S.2.2.2 i k = some a) (kk : tmW M d bc bs (pc + 3) lv (tR a :: st) (S, I, L) Q) : tmW M d bc bs pc lv (tR i :: st) (S, I, L) Q := wa_getR hd hf ho hr kk
theorem wt_putI {idx ci k i : Nat} {a : Int} (hd : decode M.2.1 pc = .ok (.putfield idx, 3)) (hf : tmFL M.1 idx ci k 0) (hp : tmFP M.1 M.2.2.2.2 ci k) (ho : tmObj S i ci) (hx : inR a) (kk : tmW M d bc bs (pc + 3) lv st (S, va_up I i (va_up (I i) k a), L) Q) : tmW M d bc bs pc lv (tI a :: tR i :: st) (S, I, L) Q := wa_putI hd hf hp ho hx kk
theorem wt_putZ {idx ci k i : Nat} {a : Int} (hd : decode M.2.1 pc = .ok (.putfield idx, 3)) (hf : tmFL M.1 idx ci k 3) (hp : tmFP M.1 M.2.2.2.2 ci k) (ho : tmObj S i ci) (ha : a = 0 ∨ a = 1) (kk : tmW M d bc bs (pc + 3) lv st (S, va_up I i (va_up (I i) k a), L) Q) : tmW M d bc bs pc lv (tI a :: tR i :: st) (S, I, L) Q := wa_putZ hd hf hp ho ha kk
theorem wt_putL {idx ci k i : Nat} {a : Int64} (hd : decode M.2.1 pc = .ok (.putfield idx, 3)) (hf : tmFL M.1 idx ci k 2) (hp : tmFP M.1 M.2.2.2.2 ci k) (ho : tmObj S i ci) (kk : tmW M d bc bs (pc + 3) lv st (S, I, va_up L i (va_up (L i) k a)) Q) : tmW M d bc bs pc lv (tL a :: tR i :: st) (S, I, L) Q := wa_putL hd hf hp ho kk
theorem wt_putR {idx ci k i a : Nat} (hd : decode M.2.1 pc = .ok (.putfield idx, 3)) (hf : tmFL M.1 idx ci k 1) (hp : tmFP M.1 M.2.2.2.2 ci k) (ho : tmObj S i ci) (kk : tmW M d bc bs (pc + 3) lv st ((S.1, S.2.1, S.2.2.1, va_up S.2.2.2 i (va_up (S.2.2.2 i) k (some a))), I, L) Q) : tmW M d bc bs pc lv (tR a :: tR i :: st) (S, I, L) Q := wa_putR hd hf hp ho kk
theorem wt_iald {i nn : Nat} {a : Int} (j : Nat) (hd : decode M.2.1 pc = .ok (.iaload, 1)) (ho : tmArr S i 13 nn) (ha : a = (j : Int)) (hj : j < nn) (kk : tmW M d bc bs (pc + 1) lv (tI (I i j) :: st) (S, I, L) Q) : tmW M d bc bs pc lv (tI a :: tR i :: st) (S, I, L) Q := wa_iald j hd ho ha hj kk
theorem wt_lald {i nn : Nat} {a : Int} (j : Nat) (hd : decode M.2.1 pc = .ok (.laload, 1)) (ho : tmArr S i 14 nn) (ha : a = (j : Int)) (hj : j < nn) (kk : tmW M d bc bs (pc + 1) lv (tL (L i j) :: st) (S, I, L) Q) : tmW M d bc bs pc lv (tI a :: tR i :: st) (S, I, L) Q := wa_lald j hd ho ha hj kk
theorem wt_aaldP {i nn x : Nat} {a : Int} (j : Nat) (hd : decode M.2.1 pc = .ok (.aaload, 1)) (ho : tmArr S i 15 nn) (ha : a = (j : Int)) (hj : j < nn) (hr : S.2.2.2 i j = some x) (kk : tmW M d bc bs (pc + 1) lv (tR x :: st) (S, I, L) Q) : tmW M d bc bs pc lv (tI a :: tR i :: st) (S, I, L) Q := wa_aaldP j hd ho ha hj hr kk
theorem wt_aaldS {i nn x : Nat} {a : Int} (j : Nat) (hd : decode M.2.1 pc = .ok (.aaload, 1)) (ho : tmArr S i 16 nn) (ha : a = (j : Int)) (hj : j < nn) (hr : S.2.2.2 i j = some x) (kk : tmW M d bc bs (pc + 1) lv (tR x :: st) (S, I, L) Q) : tmW M d bc bs pc lv (tI a :: tR i :: st) (S, I, L) Q := wa_aaldS j hd ho ha hj hr kk
theorem wt_alen {i kd nn : Nat} (hd : decode M.2.1 pc = .ok (.arraylength, 1)) (ho : tmArr S i kd nn) (hk : kd = 13 ∨ kd = 14) (kk : tmW M d bc bs (pc + 1) lv (tI (nn : Int) :: st) (S, I, L) Q) : tmW M d bc bs pc lv (tR i :: st) (S, I, L) Q := wa_alen hd ho hk kk
theorem wt_iast {i nn : Nat} {a x : Int} (j : Nat) (hd : decode M.2.1 pc = .ok (.iastore, 1)) (ho : tmArr S i 13 nn) (ha : a = (j : Int)) (hj : j < nn) (hx : inR x) (kk : tmW M d bc bs (pc + 1) lv st (S, va_up I i (va_up (I i) j x), L) Q) : tmW M d bc bs pc lv (tI x :: tI a :: tR i :: st) (S, I, L) Q := wa_iast j hd ho ha hj hx kk
theorem wt_last {i nn : Nat} {a : Int} {x : Int64} (j : Nat) (hd : decode M.2.1 pc = .ok (.lastore, 1)) (ho : tmArr S i 14 nn) (ha : a = (j : Int)) (hj : j < nn) (kk : tmW M d bc bs (pc + 1) lv st (S, I, va_up L i (va_up (L i) j x)) Q) : tmW M d bc bs pc lv (tL x :: tI a :: tR i :: st) (S, I, L) Q := wa_last j hd ho ha hj kk
theorem wt_aast {i nn v kd ci : Nat} {a : Int} (j : Nat) (hd : decode M.2.1 pc = .ok (.aastore, 1)) (hkd : (kd = 15 ∧ ci = 2) ∨ (kd = 16 ∧ ci = 6)) (ho : tmArr S i kd nn) (hv : tmObj S v ci) (ha : a = (j : Int)) (hj : j < nn)
    (kk : tmW M d bc bs (pc + 1) lv st ((S.1, S.2.1, S.2.2.1, va_up S.2.2.2 i (va_up (S.2.2.2 i) j (some v))), I, L) Q) : tmW M d bc bs pc lv (tR v :: tI a :: tR i :: st) (S, I, L) Q := wa_aast j hd hkd ho hv ha hj kk
theorem va_cpy_of (f g : Nat → Int) (sp dp n : Nat) : (fun j => Int32.ofInt (va_cpy f g sp dp n j)) = va_cpy (fun j => Int32.ofInt (f j)) (fun j => Int32.ofInt (g j)) sp dp n := by
  funext j
  unfold va_cpy
  split <;> rfl
/-- System.arraycopy of ints, from place sp to place dp -/
theorem wt_copy {i0 i1 n0 n1 sp dp n idx : Nat} {asp adp an : Int} (hd : decode M.2.1 pc = .ok (.invokestatic idx, 3)) (hlk : Cond.methodLink M.1 idx arraycopyName ∈ tmT) (hn1 : Cond.native arraycopyName ∈ tmT) (hn2 : Cond.static arraycopyName ∈ tmT) (hn3 : Cond.initialized "java/lang/System" ∈ tmT) (h0 : tmArr S i0 13 n0) (h1 : tmArr S i1 13 n1) (e1 : asp = (sp : Int)) (e2 : adp = (dp : Int)) (e3 : an = (n : Int)) (h4 : sp + n ≤ n0) (h5 : dp + n ≤ n1) (hdp : 2 ≤ d) (hcat : (st.map fun v => if tmIsL (some v) then 2 else 1).sum ≤ 8)
    (kk : tmW M d bc bs (pc + 3) lv st (S, va_up I i1 (va_cpy (I i0) (I i1) sp dp n), L) Q) : tmW M d bc bs pc lv (tI an :: tI adp :: tR i1 :: tI asp :: tR i0 :: st) (S, I, L) Q := by
  intro p l e R s m args below meth c H locs cells slots b0 G ls X hc hs hl' hR hS
  subst e1; subst e2; subst e3
  obtain ⟨o1, o2, o3, o4⟩ := h0
  obtain ⟨p1, p2, p3, p4⟩ := h1
  have hts := X.2.2.2.2.2.2.1
  have hK := X.2.2.2.2.2.2.2.1.1
  have hd1 := X.2.2.2.2.2.2.2.2.1
  have hd2 := X.2.2.2.2.2.2.2.2.2.1
  have cl : ∀ k : Nat, k ≤ 2147483647 → (Int32.ofInt (k : Int)).toNatClampNeg = k := fun k hk => nI_clamp (by omega)
  have ps : ∀ k : Nat, k ≤ 2147483647 → ¬ Int32.ofInt (k : Int) < 0 := fun k hk => nI_pos (by omega)
  have toI : ∀ k : Nat, k ≤ 2147483647 → (Int32.ofInt (k : Int)).toInt = (k : Int) := fun k hk => nI_toInt (by omega)
  have hc0 : H[b0 + i0]? = some (vp_cell G.2.1 (n0, .inl (fun j => Int32.ofInt (I i0 j)))) := by
    have := hR.2.1 i0 _ (tmw_get o1 (tmc_i o2)); rw [o3] at this; exact this
  have hc1 : H[b0 + i1]? = some (vp_cell G.2.1 (n1, .inl (fun j => Int32.ofInt (I i1 j)))) := by
    have := hR.2.1 i1 _ (tmw_get p1 (tmc_i p2)); rw [p3] at this; exact this
  intro T hT Y
  obtain ⟨-, k0, hk0, cm0, hkk0⟩ := (hK.2 0 _ rfl).1 n0 (fun j => .int (Int32.ofInt (I i0 j)))
  obtain ⟨-, k1, hk1, cm1, hkk1⟩ := (hK.2 0 _ rfl).1 n1 (fun j => .int (Int32.ofInt (I i1 j)))
  have hcat' := tm_cat (b0 := b0) hcat
  have hnf : nativeFrameWords "java/lang/System" "arraycopy" 5 ≤ 40 := by decide +kernel
  obtain ⟨vm', Y', step⟩ := Y.arraycopy X.1 X.2.2.2.2.2.1 (hts _ hlk) (hts _ hn1) (hts _ hn2) (hts _ hn3) (src := b0 + i0) (dst := b0 + i1) (cs := vp_cell G.2.1 (n0, .inl (fun j => Int32.ofInt (I i0 j)))) (cd := vp_cell G.2.1 (n1, .inl (fun j => Int32.ofInt (I i1 j)))) (srcPos := Int32.ofInt (sp : Int)) (destPos := Int32.ofInt (dp : Int)) (n := Int32.ofInt (n : Int)) (by rw [hT]; exact hc0) (by rw [hT]; exact hc1)
    (fun _ h => by cases h) (fun _ h => by cases h) (fun h => by cases h) (fun h => by cases h) hk0 hk1 hkk0 hkk1 (by rfl) (ps _ (by omega)) (ps _ (by omega)) (ps _ (by omega))
    (by rw [toI sp (by omega), toI n (by omega)]; show ¬ _ > ((arrV _ n0 _).slots.size : Int); rw [arrV_size]; omega)
    (by rw [toI dp (by omega), toI n (by omega)]; show ¬ _ > ((arrV _ n1 _).slots.size : Int); rw [arrV_size]; omega)
    (fun vm₁ _ i hi => by
      rw [cl n (by omega)] at hi
      rw [cl sp (by omega)]
      have e : (vp_cell G.2.1 (n0, .inl (fun j => Int32.ofInt (I i0 j)))).slots.getD (sp + i) .null = .int (Int32.ofInt (I i0 (sp + i))) := by
        show (arrV _ n0 _).slots.getD _ _ = _
        rw [Array.getD_eq_getD_getElem?, arrV_read _ _ (by omega)]
        rfl
      exact ⟨by rw [e]; rfl, by rw [e]; exact trivial⟩)
    (g := F0 m pc ls ((tI (n : Int) :: tI (dp : Int) :: tR i1 :: tI (sp : Int) :: tR i0 :: st).map (tmt b0))) rfl (by rw [X.2.2.1]; exact hl'.1) (rest := st.map (tmt b0)) rfl (by rw [X.2.1]; exact hd) (by omega) (by show 2 * 0 + _ + (nativeFrameWords "java/lang/System" "arraycopy" 5 + 11) ≤ _; omega)
  have e2 : copied (vp_cell G.2.1 (n0, .inl (fun j => Int32.ofInt (I i0 j)))) (vp_cell G.2.1 (n1, .inl (fun j => Int32.ofInt (I i1 j)))) (Int32.ofInt (sp : Int)) (Int32.ofInt (dp : Int)) (Int32.ofInt (n : Int)) = vp_cell G.2.1 (n1, .inl (fun j => Int32.ofInt (va_cpy (I i0) (I i1) sp dp n j))) := by
    show (arrV G.2.1 n1 (fun j => .int (Int32.ofInt (I i1 j)))).storeRun (Int32.ofInt (dp : Int)).toNatClampNeg ((arrV G.2.1 n0 (fun j => .int (Int32.ofInt (I i0 j)))).stretch (Int32.ofInt (sp : Int)).toNatClampNeg (Int32.ofInt (n : Int)).toNatClampNeg) = _
    rw [cl sp (by omega), cl dp (by omega), cl n (by omega), va_copied (fun z => Value.int z) G.2.1 G.2.1 (fun j => Int32.ofInt (I i0 j)) (fun j => Int32.ofInt (I i1 j)) h4, va_cpy_of]
    rfl
  rw [e2] at Y' step
  have hlt : b0 + i1 < H.size := (Array.getElem?_eq_some_iff.mp hc1).1
  generalize hv : vp_cell G.2.1 (n1, .inl (fun j => Int32.ofInt (va_cpy (I i0) (I i1) sp dp n j))) = nc at Y' step
  have hheap : ((T.setVm vm').setCell (b0 + i1) nc).heap = H.setIfInBounds (b0 + i1) nc := by rw [← hT]; rfl
  have oq : ∀ q : Nat, q ≠ b0 + i1 → (H.setIfInBounds (b0 + i1) nc)[q]? = H[q]? := fun q hq => by simp [Array.getElem?_setIfInBounds, Ne.symm hq]
  obtain ⟨t, a1, b1⟩ := kk p l e R s m args below meth c _ _ cells slots b0 G ls X hc hs hl' (hR.upd (h' := (S, va_up I i1 (va_cpy (I i0) (I i1) sp dp n), L)) p1 (by simp) oq rfl (by
      rw [tmc_i (h := (S, va_up I i1 (va_cpy (I i0) (I i1) sp dp n), L)) p2]
      show (H.setIfInBounds (b0 + i1) nc)[b0 + i1]? = some (vp_cell _ _)
      rw [Array.getElem?_setIfInBounds, if_pos rfl, if_pos hlt, ← hv, p3]
      simp [va_up]) (fun q hq => tmc_ext rfl rfl rfl (vup_n hq) rfl) (hR.2.2.row (fun k => by unfold va_cpy; split <;> exact hR.2.2 _ _))) ⟨by simp; exact hS.1, fun q g1 g2 => by
      rw [oq q (fun e => g2 (by rw [e]; show b0 ≤ b0 + i1; omega))]
      exact hS.2.1 q g1 g2, fun q hq => by
      rcases List.mem_append.mp hq with h | h
      · exact hS.2.2 q h
      · obtain ⟨z, -, hz⟩ := List.mem_map.mp h
        rw [← hz]
        show b0 ≤ b0 + i1
        omega⟩ _ hheap Y'
  exact ⟨t, step t a1, b1⟩
end WT
end
section
/-! ===== 09: what is fixed of classes, fields, methods, calls (by program) ===== -/
theorem tmT_ps {ws : List Cond} (ps : List Nat) (hp : ws = ps.filterMap (fun i => tables_1[i]?)) (hg : ws.all goodWord = true) : ∀ w ∈ ws, w ∈ tmT := by
  intro w hw
  have h1 := List.all_eq_true.mp hg w hw
  rw [hp] at hw
  obtain ⟨i, -, hi⟩ := List.mem_filterMap.mp hw
  exact tmT_in (List.mem_of_getElem? hi) h1
theorem tmT_a1 {w : Cond} (i : Nat) (h : tables_1_1[i]? = some w) (hg : goodWord w = true) : w ∈ tmT := tmT_in (by unfold tables_1; simp only [List.mem_append]; exact Or.inl (List.mem_of_getElem? h)) hg
theorem tmT_a2 {w : Cond} (i : Nat) (h : tables_1_2[i]? = some w) (hg : goodWord w = true) : w ∈ tmT := tmT_in (by unfold tables_1; simp only [List.mem_append]; exact Or.inr (Or.inl (List.mem_of_getElem? h))) hg
theorem tmT_a3 {w : Cond} (i : Nat) (h : tables_1_3[i]? = some w) (hg : goodWord w = true) : w ∈ tmT := tmT_in (by unfold tables_1; simp only [List.mem_append]; exact Or.inr (Or.inr (Or.inl (List.mem_of_getElem? h)))) hg
theorem tmT_a4 {w : Cond} (i : Nat) (h : tables_1_4[i]? = some w) (hg : goodWord w = true) : w ∈ tmT := tmT_in (by unfold tables_1; simp only [List.mem_append]; exact Or.inr (Or.inr (Or.inr (Or.inl (List.mem_of_getElem? h))))) hg
theorem tmT_a5 {w : Cond} (i : Nat) (h : tables_1_5[i]? = some w) (hg : goodWord w = true) : w ∈ tmT := tmT_in (by unfold tables_1; simp only [List.mem_append]; exact Or.inr (Or.inr (Or.inr (Or.inr (Or.inl (List.mem_of_getElem? h)))))) hg
theorem tmT_a6 {w : Cond} (i : Nat) (h : tables_1_6[i]? = some w) (hg : goodWord w = true) : w ∈ tmT := tmT_in (by unfold tables_1; simp only [List.mem_append]; exact Or.inr (Or.inr (Or.inr (Or.inr (Or.inr (List.mem_of_getElem? h)))))) hg
def tmTys (ci N : Nat) (t0 : Nat → FieldType) : Bool := (List.range N).all fun k => match (tmft ci)[k]? with
  | some ty => tmTy ty (t0 k)
  | none => false
theorem tmTys_ok {ci N : Nat} {t0 : Nat → FieldType} (h : tmTys ci N t0 = true) : ∀ k, k < N → ∃ ty, (tmft ci)[k]? = some ty ∧ tmTy ty (t0 k) = true := by
  intro k hk
  have := List.all_eq_true.mp h k (List.mem_range.mpr hk)
  cases e : (tmft ci)[k]? with
  | none => rw [e] at this; cases this
  | some ty => rw [e] at this; exact ⟨ty, rfl, this⟩
theorem CL0 : tmCl 0 RX0 TX0 3 tyX0 := ⟨rfl, tmT_ps [213, 215, 217] (by decide +kernel) (by decide +kernel), tyX0_ok, nmX0, tmTys_ok (by decide +kernel), rfl, by decide⟩
theorem CL1 : tmCl 1 RX1 TX1 2 tyX1 := ⟨rfl, tmT_ps [238, 240] (by decide +kernel) (by decide +kernel), tyX1_ok, nmX1, tmTys_ok (by decide +kernel), rfl, by decide⟩
theorem CL2 : tmCl 2 RX2 TX2 6 tyX2 := ⟨rfl, tmT_ps [114, 116, 118, 120, 122, 124] (by decide +kernel) (by decide +kernel), tyX2_ok, nmX2, tmTys_ok (by decide +kernel), rfl, by decide⟩
theorem CL3 : tmCl 3 RX3 TX3 8 tyX3 := ⟨rfl, tmT_ps [282, 284, 286, 288, 290, 292, 294, 296] (by decide +kernel) (by decide +kernel), tyX3_ok, nmX3, tmTys_ok (by decide +kernel), rfl, by decide⟩
theorem CL4 : tmCl 4 RX4 TX4 7 tyX4 := ⟨rfl, tmT_ps [250, 252, 254, 256, 258, 260, 262] (by decide +kernel) (by decide +kernel), tyX4_ok, nmX4, tmTys_ok (by decide +kernel), rfl, by decide⟩
theorem CL5 : tmCl 5 RX5 TX5 8 tyX5 := ⟨rfl, tmT_ps [185, 187, 189, 191, 193, 195, 197, 199] (by decide +kernel) (by decide +kernel), tyX5_ok, nmX5, tmTys_ok (by decide +kernel), rfl, by decide⟩
theorem CL6 : tmCl 6 RX6 TX6 4 tyX6 := ⟨rfl, tmT_ps [138, 140, 142, 144] (by decide +kernel) (by decide +kernel), tyX6_ok, nmX6, tmTys_ok (by decide +kernel), rfl, by decide⟩
theorem CL7 : tmCl 7 RX7 TX7 3 tyX7 := ⟨rfl, tmT_ps [160, 162, 164] (by decide +kernel) (by decide +kernel), tyX7_ok, nmX7, tmTys_ok (by decide +kernel), rfl, by decide⟩
theorem CL8 : tmCl 8 RX8 TX8 6 tyX8 := ⟨rfl, tmT_ps [69, 71, 73, 75, 77, 79] (by decide +kernel) (by decide +kernel), tyX8_ok, nmX8, tmTys_ok (by decide +kernel), rfl, by decide⟩
theorem CL9 : tmCl 9 RX9 TX9 9 tyX9 := ⟨rfl, tmT_ps [318, 320, 322, 324, 326, 328, 330, 332, 334] (by decide +kernel) (by decide +kernel), tyX9_ok, nmX9, tmTys_ok (by decide +kernel), rfl, by decide⟩
theorem CL10 : tmCl 10 RX10 TX10 4 tyX10 := ⟨rfl, tmT_ps [348, 350, 352, 354] (by decide +kernel) (by decide +kernel), tyX10_ok, nmX10, tmTys_ok (by decide +kernel), rfl, by decide⟩
theorem CL11 : tmCl 11 RX11 TX11 11 tyX11 := ⟨rfl, tmT_ps [368, 370, 372, 374, 376, 378, 380, 382, 384, 386, 388] (by decide +kernel) (by decide +kernel), tyX11_ok, nmX11, tmTys_ok (by decide +kernel), rfl, by decide⟩
theorem CL12 : tmCl 12 RX12 TX12 33 tyX12 := ⟨rfl, tmT_ps [948, 950, 952, 954, 956, 958, 960, 962, 964, 966, 968, 970, 972, 974, 976, 978, 980, 982, 984, 986, 988, 990, 992, 994, 996, 998, 1000, 1002, 1004, 1006, 1008, 1010, 1012] (by decide +kernel) (by decide +kernel), tyX12_ok, nmX12, tmTys_ok (by decide +kernel), rfl, by decide⟩
theorem FX8_9 : tmFL RX8 9 8 0 0 := ⟨_, _, _, _, CL8, by decide, tmT_a1 42 (by decide +kernel) rfl, by decide⟩
theorem FX0_22 : tmFL RX0 22 8 0 0 := ⟨_, _, _, _, CL8, by decide, tmT_a1 43 (by decide +kernel) rfl, by decide⟩
theorem FX11_102 : tmFL RX11 102 8 0 0 := ⟨_, _, _, _, CL8, by decide, tmT_a1 44 (by decide +kernel) rfl, by decide⟩
theorem FX6_39 : tmFL RX6 39 8 0 0 := ⟨_, _, _, _, CL8, by decide, tmT_a1 45 (by decide +kernel) rfl, by decide⟩
theorem FX5_52 : tmFL RX5 52 8 0 0 := ⟨_, _, _, _, CL8, by decide, tmT_a1 46 (by decide +kernel) rfl, by decide⟩
theorem FX4_87 : tmFL RX4 87 8 0 0 := ⟨_, _, _, _, CL8, by decide, tmT_a1 47 (by decide +kernel) rfl, by decide⟩
theorem FX3_107 : tmFL RX3 107 8 0 0 := ⟨_, _, _, _, CL8, by decide, tmT_a1 48 (by decide +kernel) rfl, by decide⟩
theorem FX8_15 : tmFL RX8 15 8 1 1 := ⟨_, _, _, _, CL8, by decide, tmT_a1 49 (by decide +kernel) rfl, by decide⟩
theorem FX10_39 : tmFL RX10 39 8 1 1 := ⟨_, _, _, _, CL8, by decide, tmT_a1 50 (by decide +kernel) rfl, by decide⟩
theorem FX5_57 : tmFL RX5 57 8 1 1 := ⟨_, _, _, _, CL8, by decide, tmT_a1 51 (by decide +kernel) rfl, by decide⟩
theorem FX11_130 : tmFL RX11 130 8 1 1 := ⟨_, _, _, _, CL8, by decide, tmT_a1 52 (by decide +kernel) rfl, by decide⟩
theorem FX8_19 : tmFL RX8 19 8 2 1 := ⟨_, _, _, _, CL8, by decide, tmT_a1 53 (by decide +kernel) rfl, by decide⟩
theorem FX10_53 : tmFL RX10 53 8 2 1 := ⟨_, _, _, _, CL8, by decide, tmT_a1 54 (by decide +kernel) rfl, by decide⟩
theorem FX5_60 : tmFL RX5 60 8 2 1 := ⟨_, _, _, _, CL8, by decide, tmT_a1 55 (by decide +kernel) rfl, by decide⟩
theorem FX11_133 : tmFL RX11 133 8 2 1 := ⟨_, _, _, _, CL8, by decide, tmT_a1 56 (by decide +kernel) rfl, by decide⟩
theorem FX8_22 : tmFL RX8 22 8 3 1 := ⟨_, _, _, _, CL8, by decide, tmT_a1 57 (by decide +kernel) rfl, by decide⟩
theorem FX10_50 : tmFL RX10 50 8 3 1 := ⟨_, _, _, _, CL8, by decide, tmT_a1 58 (by decide +kernel) rfl, by decide⟩
theorem FX5_67 : tmFL RX5 67 8 3 1 := ⟨_, _, _, _, CL8, by decide, tmT_a1 59 (by decide +kernel) rfl, by decide⟩
theorem FX11_136 : tmFL RX11 136 8 3 1 := ⟨_, _, _, _, CL8, by decide, tmT_a1 60 (by decide +kernel) rfl, by decide⟩
theorem FX8_25 : tmFL RX8 25 8 4 1 := ⟨_, _, _, _, CL8, by decide, tmT_a1 61 (by decide +kernel) rfl, by decide⟩
theorem FX11_113 : tmFL RX11 113 8 4 1 := ⟨_, _, _, _, CL8, by decide, tmT_a1 62 (by decide +kernel) rfl, by decide⟩
theorem FX4_93 : tmFL RX4 93 8 4 1 := ⟨_, _, _, _, CL8, by decide, tmT_a1 63 (by decide +kernel) rfl, by decide⟩
theorem FX9_114 : tmFL RX9 114 8 4 1 := ⟨_, _, _, _, CL8, by decide, tmT_a1 64 (by decide +kernel) rfl, by decide⟩
theorem FX8_28 : tmFL RX8 28 8 5 1 := ⟨_, _, _, _, CL8, by decide, tmT_a1 65 (by decide +kernel) rfl, by decide⟩
theorem FX4_90 : tmFL RX4 90 8 5 1 := ⟨_, _, _, _, CL8, by decide, tmT_a1 66 (by decide +kernel) rfl, by decide⟩
theorem FX5_74 : tmFL RX5 74 8 5 1 := ⟨_, _, _, _, CL8, by decide, tmT_a1 67 (by decide +kernel) rfl, by decide⟩
theorem FX11_139 : tmFL RX11 139 8 5 1 := ⟨_, _, _, _, CL8, by decide, tmT_a1 68 (by decide +kernel) rfl, by decide⟩
theorem FX2_9 : tmFL RX2 9 2 0 0 := ⟨_, _, _, _, CL2, by decide, tmT_a1 93 (by decide +kernel) rfl, by decide⟩
theorem FX0_28 : tmFL RX0 28 2 0 0 := ⟨_, _, _, _, CL2, by decide, tmT_a1 94 (by decide +kernel) rfl, by decide⟩
theorem FX9_63 : tmFL RX9 63 2 0 0 := ⟨_, _, _, _, CL2, by decide, tmT_a1 95 (by decide +kernel) rfl, by decide⟩
theorem FX3_144 : tmFL RX3 144 2 0 0 := ⟨_, _, _, _, CL2, by decide, tmT_a1 96 (by decide +kernel) rfl, by decide⟩
theorem FX11_182 : tmFL RX11 182 2 0 0 := ⟨_, _, _, _, CL2, by decide, tmT_a1 97 (by decide +kernel) rfl, by decide⟩
theorem FX2_15 : tmFL RX2 15 2 1 0 := ⟨_, _, _, _, CL2, by decide, tmT_a1 98 (by decide +kernel) rfl, by decide⟩
theorem FX4_68 : tmFL RX4 68 2 1 0 := ⟨_, _, _, _, CL2, by decide, tmT_a1 99 (by decide +kernel) rfl, by decide⟩
theorem FX9_66 : tmFL RX9 66 2 1 0 := ⟨_, _, _, _, CL2, by decide, tmT_a1 100 (by decide +kernel) rfl, by decide⟩
theorem FX3_139 : tmFL RX3 139 2 1 0 := ⟨_, _, _, _, CL2, by decide, tmT_a1 101 (by decide +kernel) rfl, by decide⟩
theorem FX11_165 : tmFL RX11 165 2 1 0 := ⟨_, _, _, _, CL2, by decide, tmT_a1 102 (by decide +kernel) rfl, by decide⟩
theorem FX2_24 : tmFL RX2 24 2 2 1 := ⟨_, _, _, _, CL2, by decide, tmT_a1 103 (by decide +kernel) rfl, by decide⟩
theorem FX0_35 : tmFL RX0 35 2 2 1 := ⟨_, _, _, _, CL2, by decide, tmT_a1 104 (by decide +kernel) rfl, by decide⟩
theorem FX4_122 : tmFL RX4 122 2 2 1 := ⟨_, _, _, _, CL2, by decide, tmT_a1 105 (by decide +kernel) rfl, by decide⟩
theorem FX2_28 : tmFL RX2 28 2 3 1 := ⟨_, _, _, _, CL2, by decide, tmT_a1 106 (by decide +kernel) rfl, by decide⟩
theorem FX0_38 : tmFL RX0 38 2 3 1 := ⟨_, _, _, _, CL2, by decide, tmT_a1 107 (by decide +kernel) rfl, by decide⟩
theorem FX4_115 : tmFL RX4 115 2 3 1 := ⟨_, _, _, _, CL2, by decide, tmT_a1 108 (by decide +kernel) rfl, by decide⟩
theorem FX2_31 : tmFL RX2 31 2 4 1 := ⟨_, _, _, _, CL2, by decide, tmT_a1 109 (by decide +kernel) rfl, by decide⟩
theorem FX0_45 : tmFL RX0 45 2 4 1 := ⟨_, _, _, _, CL2, by decide, tmT_a1 110 (by decide +kernel) rfl, by decide⟩
theorem FX4_125 : tmFL RX4 125 2 4 1 := ⟨_, _, _, _, CL2, by decide, tmT_a1 111 (by decide +kernel) rfl, by decide⟩
theorem FX2_34 : tmFL RX2 34 2 5 1 := ⟨_, _, _, _, CL2, by decide, tmT_a1 112 (by decide +kernel) rfl, by decide⟩
theorem FX4_147 : tmFL RX4 147 2 5 1 := ⟨_, _, _, _, CL2, by decide, tmT_a1 113 (by decide +kernel) rfl, by decide⟩
theorem FX6_12 : tmFL RX6 12 6 0 1 := ⟨_, _, _, _, CL6, by decide, tmT_a1 127 (by decide +kernel) rfl, by decide⟩
theorem FX11_32 : tmFL RX11 32 6 0 1 := ⟨_, _, _, _, CL6, by decide, tmT_a1 128 (by decide +kernel) rfl, by decide⟩
theorem FX4_48 : tmFL RX4 48 6 0 1 := ⟨_, _, _, _, CL6, by decide, tmT_a1 129 (by decide +kernel) rfl, by decide⟩
theorem FX3_103 : tmFL RX3 103 6 0 1 := ⟨_, _, _, _, CL6, by decide, tmT_a1 130 (by decide +kernel) rfl, by decide⟩
theorem FX9_101 : tmFL RX9 101 6 0 1 := ⟨_, _, _, _, CL6, by decide, tmT_a1 131 (by decide +kernel) rfl, by decide⟩
theorem FX6_20 : tmFL RX6 20 6 1 1 := ⟨_, _, _, _, CL6, by decide, tmT_a1 132 (by decide +kernel) rfl, by decide⟩
theorem FX6_24 : tmFL RX6 24 6 2 0 := ⟨_, _, _, _, CL6, by decide, tmT_a1 133 (by decide +kernel) rfl, by decide⟩
theorem FX3_71 : tmFL RX3 71 6 2 0 := ⟨_, _, _, _, CL6, by decide, tmT_a1 134 (by decide +kernel) rfl, by decide⟩
theorem FX9_82 : tmFL RX9 82 6 2 0 := ⟨_, _, _, _, CL6, by decide, tmT_a1 135 (by decide +kernel) rfl, by decide⟩
theorem FX11_203 : tmFL RX11 203 6 2 0 := ⟨_, _, _, _, CL6, by decide, tmT_a1 136 (by decide +kernel) rfl, by decide⟩
theorem FX6_31 : tmFL RX6 31 6 3 1 := ⟨_, _, _, _, CL6, by decide, tmT_a1 137 (by decide +kernel) rfl, by decide⟩
theorem FX7_13 : tmFL RX7 13 7 0 1 := ⟨_, _, _, _, CL7, by decide, tmT_a1 156 (by decide +kernel) rfl, by decide⟩
theorem FX7_17 : tmFL RX7 17 7 1 0 := ⟨_, _, _, _, CL7, by decide, tmT_a1 157 (by decide +kernel) rfl, by decide⟩
theorem FX7_21 : tmFL RX7 21 7 2 0 := ⟨_, _, _, _, CL7, by decide, tmT_a1 158 (by decide +kernel) rfl, by decide⟩
theorem FX11_239 : tmFL RX11 239 7 2 0 := ⟨_, _, _, _, CL7, by decide, tmT_a1 159 (by decide +kernel) rfl, by decide⟩
theorem FX5_11 : tmFL RX5 11 5 0 1 := ⟨_, _, _, _, CL5, by decide, tmT_a1 176 (by decide +kernel) rfl, by decide⟩
theorem FX4_157 : tmFL RX4 157 5 0 1 := ⟨_, _, _, _, CL5, by decide, tmT_a1 177 (by decide +kernel) rfl, by decide⟩
theorem FX5_15 : tmFL RX5 15 5 1 1 := ⟨_, _, _, _, CL5, by decide, tmT_a1 178 (by decide +kernel) rfl, by decide⟩
theorem FX5_18 : tmFL RX5 18 5 2 0 := ⟨_, _, _, _, CL5, by decide, tmT_a1 179 (by decide +kernel) rfl, by decide⟩
theorem FX5_22 : tmFL RX5 22 5 3 1 := ⟨_, _, _, _, CL5, by decide, tmT_a1 180 (by decide +kernel) rfl, by decide⟩
theorem FX5_26 : tmFL RX5 26 5 4 2 := ⟨_, _, _, _, CL5, by decide, tmT_a1 181 (by decide +kernel) rfl, by decide⟩
theorem FX5_30 : tmFL RX5 30 5 5 1 := ⟨_, _, _, _, CL5, by decide, tmT_a1 182 (by decide +kernel) rfl, by decide⟩
theorem FX5_33 : tmFL RX5 33 5 6 1 := ⟨_, _, _, _, CL5, by decide, tmT_a1 183 (by decide +kernel) rfl, by decide⟩
theorem FX5_36 : tmFL RX5 36 5 7 1 := ⟨_, _, _, _, CL5, by decide, tmT_a1 184 (by decide +kernel) rfl, by decide⟩
theorem FX0_18 : tmFL RX0 18 0 0 1 := ⟨_, _, _, _, CL0, by decide, tmT_a1 209 (by decide +kernel) rfl, by decide⟩
theorem FX0_9 : tmFL RX0 9 0 1 1 := ⟨_, _, _, _, CL0, by decide, tmT_a1 210 (by decide +kernel) rfl, by decide⟩
theorem FX3_127 : tmFL RX3 127 0 1 1 := ⟨_, _, _, _, CL0, by decide, tmT_a1 211 (by decide +kernel) rfl, by decide⟩
theorem FX0_15 : tmFL RX0 15 0 2 1 := ⟨_, _, _, _, CL0, by decide, tmT_a1 212 (by decide +kernel) rfl, by decide⟩
theorem FX1_21 : tmFL RX1 21 1 0 1 := ⟨_, _, _, _, CL1, by decide, tmT_a1 233 (by decide +kernel) rfl, by decide⟩
theorem FX1_9 : tmFL RX1 9 1 1 0 := ⟨_, _, _, _, CL1, by decide, tmT_a1 234 (by decide +kernel) rfl, by decide⟩
theorem FX3_58 : tmFL RX3 58 1 1 0 := ⟨_, _, _, _, CL1, by decide, tmT_a1 235 (by decide +kernel) rfl, by decide⟩
theorem FX4_42 : tmFL RX4 42 1 1 0 := ⟨_, _, _, _, CL1, by decide, tmT_a1 236 (by decide +kernel) rfl, by decide⟩
theorem FX11_187 : tmFL RX11 187 1 1 0 := ⟨_, _, _, _, CL1, by decide, tmT_a1 237 (by decide +kernel) rfl, by decide⟩
theorem FX4_34 : tmFL RX4 34 4 0 1 := ⟨_, _, _, _, CL4, by decide, tmT_a2 3 (by decide +kernel) rfl, by decide⟩
theorem FX4_38 : tmFL RX4 38 4 1 1 := ⟨_, _, _, _, CL4, by decide, tmT_a2 4 (by decide +kernel) rfl, by decide⟩
theorem FX4_14 : tmFL RX4 14 4 2 1 := ⟨_, _, _, _, CL4, by decide, tmT_a2 5 (by decide +kernel) rfl, by decide⟩
theorem FX4_20 : tmFL RX4 20 4 3 0 := ⟨_, _, _, _, CL4, by decide, tmT_a2 6 (by decide +kernel) rfl, by decide⟩
theorem FX4_24 : tmFL RX4 24 4 4 1 := ⟨_, _, _, _, CL4, by decide, tmT_a2 7 (by decide +kernel) rfl, by decide⟩
theorem FX4_28 : tmFL RX4 28 4 5 1 := ⟨_, _, _, _, CL4, by decide, tmT_a2 8 (by decide +kernel) rfl, by decide⟩
theorem FX4_31 : tmFL RX4 31 4 6 1 := ⟨_, _, _, _, CL4, by decide, tmT_a2 9 (by decide +kernel) rfl, by decide⟩
theorem FX3_30 : tmFL RX3 30 3 0 1 := ⟨_, _, _, _, CL3, by decide, tmT_a2 33 (by decide +kernel) rfl, by decide⟩
theorem FX3_34 : tmFL RX3 34 3 1 1 := ⟨_, _, _, _, CL3, by decide, tmT_a2 34 (by decide +kernel) rfl, by decide⟩
theorem FX3_38 : tmFL RX3 38 3 2 1 := ⟨_, _, _, _, CL3, by decide, tmT_a2 35 (by decide +kernel) rfl, by decide⟩
theorem FX3_42 : tmFL RX3 42 3 3 1 := ⟨_, _, _, _, CL3, by decide, tmT_a2 36 (by decide +kernel) rfl, by decide⟩
theorem FX3_16 : tmFL RX3 16 3 4 1 := ⟨_, _, _, _, CL3, by decide, tmT_a2 37 (by decide +kernel) rfl, by decide⟩
theorem FX3_20 : tmFL RX3 20 3 5 1 := ⟨_, _, _, _, CL3, by decide, tmT_a2 38 (by decide +kernel) rfl, by decide⟩
theorem FX3_24 : tmFL RX3 24 3 6 1 := ⟨_, _, _, _, CL3, by decide, tmT_a2 39 (by decide +kernel) rfl, by decide⟩
theorem FX3_27 : tmFL RX3 27 3 7 1 := ⟨_, _, _, _, CL3, by decide, tmT_a2 40 (by decide +kernel) rfl, by decide⟩
theorem FX11_209 : tmFL RX11 209 3 7 1 := ⟨_, _, _, _, CL3, by decide, tmT_a2 41 (by decide +kernel) rfl, by decide⟩
theorem FX9_9 : tmFL RX9 9 9 0 1 := ⟨_, _, _, _, CL9, by decide, tmT_a2 67 (by decide +kernel) rfl, by decide⟩
theorem FX11_218 : tmFL RX11 218 9 0 1 := ⟨_, _, _, _, CL9, by decide, tmT_a2 68 (by decide +kernel) rfl, by decide⟩
theorem FX9_15 : tmFL RX9 15 9 1 0 := ⟨_, _, _, _, CL9, by decide, tmT_a2 69 (by decide +kernel) rfl, by decide⟩
theorem FX11_215 : tmFL RX11 215 9 1 0 := ⟨_, _, _, _, CL9, by decide, tmT_a2 70 (by decide +kernel) rfl, by decide⟩
theorem FX9_40 : tmFL RX9 40 9 2 1 := ⟨_, _, _, _, CL9, by decide, tmT_a2 71 (by decide +kernel) rfl, by decide⟩
theorem FX9_44 : tmFL RX9 44 9 3 1 := ⟨_, _, _, _, CL9, by decide, tmT_a2 72 (by decide +kernel) rfl, by decide⟩
theorem FX9_24 : tmFL RX9 24 9 4 1 := ⟨_, _, _, _, CL9, by decide, tmT_a2 73 (by decide +kernel) rfl, by decide⟩
theorem FX9_28 : tmFL RX9 28 9 5 1 := ⟨_, _, _, _, CL9, by decide, tmT_a2 74 (by decide +kernel) rfl, by decide⟩
theorem FX9_31 : tmFL RX9 31 9 6 1 := ⟨_, _, _, _, CL9, by decide, tmT_a2 75 (by decide +kernel) rfl, by decide⟩
theorem FX9_34 : tmFL RX9 34 9 7 0 := ⟨_, _, _, _, CL9, by decide, tmT_a2 76 (by decide +kernel) rfl, by decide⟩
theorem FX9_37 : tmFL RX9 37 9 8 0 := ⟨_, _, _, _, CL9, by decide, tmT_a2 77 (by decide +kernel) rfl, by decide⟩
theorem FX10_9 : tmFL RX10 9 10 0 1 := ⟨_, _, _, _, CL10, by decide, tmT_a2 103 (by decide +kernel) rfl, by decide⟩
theorem FX11_236 : tmFL RX11 236 10 0 1 := ⟨_, _, _, _, CL10, by decide, tmT_a2 104 (by decide +kernel) rfl, by decide⟩
theorem FX10_15 : tmFL RX10 15 10 1 1 := ⟨_, _, _, _, CL10, by decide, tmT_a2 105 (by decide +kernel) rfl, by decide⟩
theorem FX10_18 : tmFL RX10 18 10 2 0 := ⟨_, _, _, _, CL10, by decide, tmT_a2 106 (by decide +kernel) rfl, by decide⟩
theorem FX10_22 : tmFL RX10 22 10 3 0 := ⟨_, _, _, _, CL10, by decide, tmT_a2 107 (by decide +kernel) rfl, by decide⟩
theorem FX11_10 : tmFL RX11 10 11 0 1 := ⟨_, _, _, _, CL11, by decide, tmT_a2 117 (by decide +kernel) rfl, by decide⟩
theorem FX11_19 : tmFL RX11 19 11 1 1 := ⟨_, _, _, _, CL11, by decide, tmT_a2 118 (by decide +kernel) rfl, by decide⟩
theorem FX11_26 : tmFL RX11 26 11 2 1 := ⟨_, _, _, _, CL11, by decide, tmT_a2 119 (by decide +kernel) rfl, by decide⟩
theorem FX11_39 : tmFL RX11 39 11 3 1 := ⟨_, _, _, _, CL11, by decide, tmT_a2 120 (by decide +kernel) rfl, by decide⟩
theorem FX11_48 : tmFL RX11 48 11 4 1 := ⟨_, _, _, _, CL11, by decide, tmT_a2 121 (by decide +kernel) rfl, by decide⟩
theorem FX11_57 : tmFL RX11 57 11 5 1 := ⟨_, _, _, _, CL11, by decide, tmT_a2 122 (by decide +kernel) rfl, by decide⟩
theorem FX11_66 : tmFL RX11 66 11 6 1 := ⟨_, _, _, _, CL11, by decide, tmT_a2 123 (by decide +kernel) rfl, by decide⟩
theorem FX11_73 : tmFL RX11 73 11 7 1 := ⟨_, _, _, _, CL11, by decide, tmT_a2 124 (by decide +kernel) rfl, by decide⟩
theorem FX11_77 : tmFL RX11 77 11 8 1 := ⟨_, _, _, _, CL11, by decide, tmT_a2 125 (by decide +kernel) rfl, by decide⟩
theorem FX11_81 : tmFL RX11 81 11 9 0 := ⟨_, _, _, _, CL11, by decide, tmT_a2 126 (by decide +kernel) rfl, by decide⟩
theorem FX11_85 : tmFL RX11 85 11 10 0 := ⟨_, _, _, _, CL11, by decide, tmT_a2 127 (by decide +kernel) rfl, by decide⟩
theorem FX12_7 : tmFL RX12 7 12 0 1 := ⟨_, _, _, _, CL12, by decide, tmT_a4 195 (by decide +kernel) rfl, by decide⟩
theorem FX12_13 : tmFL RX12 13 12 1 1 := ⟨_, _, _, _, CL12, by decide, tmT_a4 196 (by decide +kernel) rfl, by decide⟩
theorem FX12_83 : tmFL RX12 83 12 2 0 := ⟨_, _, _, _, CL12, by decide, tmT_a4 197 (by decide +kernel) rfl, by decide⟩
theorem FX12_16 : tmFL RX12 16 12 3 1 := ⟨_, _, _, _, CL12, by decide, tmT_a4 198 (by decide +kernel) rfl, by decide⟩
theorem FX12_19 : tmFL RX12 19 12 4 1 := ⟨_, _, _, _, CL12, by decide, tmT_a4 199 (by decide +kernel) rfl, by decide⟩
theorem FX12_22 : tmFL RX12 22 12 5 1 := ⟨_, _, _, _, CL12, by decide, tmT_a4 200 (by decide +kernel) rfl, by decide⟩
theorem FX12_25 : tmFL RX12 25 12 6 1 := ⟨_, _, _, _, CL12, by decide, tmT_a4 201 (by decide +kernel) rfl, by decide⟩
theorem FX12_28 : tmFL RX12 28 12 7 1 := ⟨_, _, _, _, CL12, by decide, tmT_a4 202 (by decide +kernel) rfl, by decide⟩
theorem FX12_31 : tmFL RX12 31 12 8 1 := ⟨_, _, _, _, CL12, by decide, tmT_a4 203 (by decide +kernel) rfl, by decide⟩
theorem FX12_192 : tmFL RX12 192 12 9 0 := ⟨_, _, _, _, CL12, by decide, tmT_a4 204 (by decide +kernel) rfl, by decide⟩
theorem FX12_195 : tmFL RX12 195 12 10 0 := ⟨_, _, _, _, CL12, by decide, tmT_a4 205 (by decide +kernel) rfl, by decide⟩
theorem FX12_34 : tmFL RX12 34 12 11 1 := ⟨_, _, _, _, CL12, by decide, tmT_a4 206 (by decide +kernel) rfl, by decide⟩
theorem FX12_216 : tmFL RX12 216 12 12 0 := ⟨_, _, _, _, CL12, by decide, tmT_a4 207 (by decide +kernel) rfl, by decide⟩
theorem FX12_37 : tmFL RX12 37 12 13 1 := ⟨_, _, _, _, CL12, by decide, tmT_a4 208 (by decide +kernel) rfl, by decide⟩
theorem FX12_219 : tmFL RX12 219 12 14 0 := ⟨_, _, _, _, CL12, by decide, tmT_a4 209 (by decide +kernel) rfl, by decide⟩
theorem FX12_204 : tmFL RX12 204 12 15 0 := ⟨_, _, _, _, CL12, by decide, tmT_a4 210 (by decide +kernel) rfl, by decide⟩
theorem FX12_207 : tmFL RX12 207 12 16 0 := ⟨_, _, _, _, CL12, by decide, tmT_a4 211 (by decide +kernel) rfl, by decide⟩
theorem FX12_40 : tmFL RX12 40 12 17 1 := ⟨_, _, _, _, CL12, by decide, tmT_a4 212 (by decide +kernel) rfl, by decide⟩
theorem FX12_43 : tmFL RX12 43 12 18 1 := ⟨_, _, _, _, CL12, by decide, tmT_a4 213 (by decide +kernel) rfl, by decide⟩
theorem FX12_46 : tmFL RX12 46 12 19 1 := ⟨_, _, _, _, CL12, by decide, tmT_a4 214 (by decide +kernel) rfl, by decide⟩
theorem FX12_91 : tmFL RX12 91 12 20 3 := ⟨_, _, _, _, CL12, by decide, tmT_a4 215 (by decide +kernel) rfl, by decide⟩
theorem FX12_49 : tmFL RX12 49 12 21 1 := ⟨_, _, _, _, CL12, by decide, tmT_a4 216 (by decide +kernel) rfl, by decide⟩
theorem FX12_52 : tmFL RX12 52 12 22 1 := ⟨_, _, _, _, CL12, by decide, tmT_a4 217 (by decide +kernel) rfl, by decide⟩
theorem FX12_55 : tmFL RX12 55 12 23 1 := ⟨_, _, _, _, CL12, by decide, tmT_a4 218 (by decide +kernel) rfl, by decide⟩
theorem FX12_58 : tmFL RX12 58 12 24 1 := ⟨_, _, _, _, CL12, by decide, tmT_a4 219 (by decide +kernel) rfl, by decide⟩
theorem FX12_61 : tmFL RX12 61 12 25 1 := ⟨_, _, _, _, CL12, by decide, tmT_a4 220 (by decide +kernel) rfl, by decide⟩
theorem FX12_64 : tmFL RX12 64 12 26 1 := ⟨_, _, _, _, CL12, by decide, tmT_a4 221 (by decide +kernel) rfl, by decide⟩
theorem FX12_67 : tmFL RX12 67 12 27 1 := ⟨_, _, _, _, CL12, by decide, tmT_a4 222 (by decide +kernel) rfl, by decide⟩
theorem FX12_70 : tmFL RX12 70 12 28 1 := ⟨_, _, _, _, CL12, by decide, tmT_a4 223 (by decide +kernel) rfl, by decide⟩
theorem FX12_73 : tmFL RX12 73 12 29 1 := ⟨_, _, _, _, CL12, by decide, tmT_a4 224 (by decide +kernel) rfl, by decide⟩
theorem FX12_76 : tmFL RX12 76 12 30 1 := ⟨_, _, _, _, CL12, by decide, tmT_a4 225 (by decide +kernel) rfl, by decide⟩
theorem FX12_166 : tmFL RX12 166 12 31 0 := ⟨_, _, _, _, CL12, by decide, tmT_a4 226 (by decide +kernel) rfl, by decide⟩
theorem FX12_172 : tmFL RX12 172 12 32 3 := ⟨_, _, _, _, CL12, by decide, tmT_a4 227 (by decide +kernel) rfl, by decide⟩
theorem tmFP_of {own : String} {ini : Bool} {ci k N : Nat} {C : String} {T : u_T} (hc : vwCl[ci]? = some (C, T, N)) (h : (T k).2.2.2 = false ∨ ((T k).2.2.2 = true ∧ ini = true ∧ (T k).1 = own)) : tmFP own ini ci k := by
  intro C' T' N' h'
  have e := h'.symm.trans hc
  simp only [Option.some.injEq, Prod.mk.injEq] at e
  obtain ⟨rfl, rfl, rfl⟩ := e
  exact h
theorem WX0_0 : tmFP RX0 true 0 0 := tmFP_of (C := RX0) (T := TX0) (N := 3) rfl (Or.inr ⟨rfl, rfl, rfl⟩)
theorem WX0_1 : tmFP RX0 true 0 1 := tmFP_of (C := RX0) (T := TX0) (N := 3) rfl (Or.inr ⟨rfl, rfl, rfl⟩)
theorem WX0_2 : tmFP RX0 true 0 2 := tmFP_of (C := RX0) (T := TX0) (N := 3) rfl (Or.inr ⟨rfl, rfl, rfl⟩)
theorem WX1_0 : tmFP RX1 true 1 0 := tmFP_of (C := RX1) (T := TX1) (N := 2) rfl (Or.inr ⟨rfl, rfl, rfl⟩)
theorem WX1_1 (own : String) (ini : Bool) : tmFP own ini 1 1 := tmFP_of (C := RX1) (T := TX1) (N := 2) rfl (Or.inl rfl)
theorem WX2_0 (own : String) (ini : Bool) : tmFP own ini 2 0 := tmFP_of (C := RX2) (T := TX2) (N := 6) rfl (Or.inl rfl)
theorem WX2_1 (own : String) (ini : Bool) : tmFP own ini 2 1 := tmFP_of (C := RX2) (T := TX2) (N := 6) rfl (Or.inl rfl)
theorem WX2_2 : tmFP RX2 true 2 2 := tmFP_of (C := RX2) (T := TX2) (N := 6) rfl (Or.inr ⟨rfl, rfl, rfl⟩)
theorem WX2_3 : tmFP RX2 true 2 3 := tmFP_of (C := RX2) (T := TX2) (N := 6) rfl (Or.inr ⟨rfl, rfl, rfl⟩)
theorem WX2_4 : tmFP RX2 true 2 4 := tmFP_of (C := RX2) (T := TX2) (N := 6) rfl (Or.inr ⟨rfl, rfl, rfl⟩)
theorem WX2_5 : tmFP RX2 true 2 5 := tmFP_of (C := RX2) (T := TX2) (N := 6) rfl (Or.inr ⟨rfl, rfl, rfl⟩)
theorem WX3_0 : tmFP RX3 true 3 0 := tmFP_of (C := RX3) (T := TX3) (N := 8) rfl (Or.inr ⟨rfl, rfl, rfl⟩)
theorem WX3_1 : tmFP RX3 true 3 1 := tmFP_of (C := RX3) (T := TX3) (N := 8) rfl (Or.inr ⟨rfl, rfl, rfl⟩)
theorem WX3_2 : tmFP RX3 true 3 2 := tmFP_of (C := RX3) (T := TX3) (N := 8) rfl (Or.inr ⟨rfl, rfl, rfl⟩)
theorem WX3_3 : tmFP RX3 true 3 3 := tmFP_of (C := RX3) (T := TX3) (N := 8) rfl (Or.inr ⟨rfl, rfl, rfl⟩)
theorem WX3_4 : tmFP RX3 true 3 4 := tmFP_of (C := RX3) (T := TX3) (N := 8) rfl (Or.inr ⟨rfl, rfl, rfl⟩)
theorem WX3_5 : tmFP RX3 true 3 5 := tmFP_of (C := RX3) (T := TX3) (N := 8) rfl (Or.inr ⟨rfl, rfl, rfl⟩)
theorem WX3_6 : tmFP RX3 true 3 6 := tmFP_of (C := RX3) (T := TX3) (N := 8) rfl (Or.inr ⟨rfl, rfl, rfl⟩)
theorem WX3_7 : tmFP RX3 true 3 7 := tmFP_of (C := RX3) (T := TX3) (N := 8) rfl (Or.inr ⟨rfl, rfl, rfl⟩)
theorem WX4_0 : tmFP RX4 true 4 0 := tmFP_of (C := RX4) (T := TX4) (N := 7) rfl (Or.inr ⟨rfl, rfl, rfl⟩)
theorem WX4_1 : tmFP RX4 true 4 1 := tmFP_of (C := RX4) (T := TX4) (N := 7) rfl (Or.inr ⟨rfl, rfl, rfl⟩)
theorem WX4_2 : tmFP RX4 true 4 2 := tmFP_of (C := RX4) (T := TX4) (N := 7) rfl (Or.inr ⟨rfl, rfl, rfl⟩)
theorem WX4_3 (own : String) (ini : Bool) : tmFP own ini 4 3 := tmFP_of (C := RX4) (T := TX4) (N := 7) rfl (Or.inl rfl)
theorem WX4_4 : tmFP RX4 true 4 4 := tmFP_of (C := RX4) (T := TX4) (N := 7) rfl (Or.inr ⟨rfl, rfl, rfl⟩)
theorem WX4_5 : tmFP RX4 true 4 5 := tmFP_of (C := RX4) (T := TX4) (N := 7) rfl (Or.inr ⟨rfl, rfl, rfl⟩)
theorem WX4_6 : tmFP RX4 true 4 6 := tmFP_of (C := RX4) (T := TX4) (N := 7) rfl (Or.inr ⟨rfl, rfl, rfl⟩)
theorem WX5_0 : tmFP RX5 true 5 0 := tmFP_of (C := RX5) (T := TX5) (N := 8) rfl (Or.inr ⟨rfl, rfl, rfl⟩)
theorem WX5_1 : tmFP RX5 true 5 1 := tmFP_of (C := RX5) (T := TX5) (N := 8) rfl (Or.inr ⟨rfl, rfl, rfl⟩)
theorem WX5_2 (own : String) (ini : Bool) : tmFP own ini 5 2 := tmFP_of (C := RX5) (T := TX5) (N := 8) rfl (Or.inl rfl)
theorem WX5_3 : tmFP RX5 true 5 3 := tmFP_of (C := RX5) (T := TX5) (N := 8) rfl (Or.inr ⟨rfl, rfl, rfl⟩)
theorem WX5_4 (own : String) (ini : Bool) : tmFP own ini 5 4 := tmFP_of (C := RX5) (T := TX5) (N := 8) rfl (Or.inl rfl)
theorem WX5_5 : tmFP RX5 true 5 5 := tmFP_of (C := RX5) (T := TX5) (N := 8) rfl (Or.inr ⟨rfl, rfl, rfl⟩)
theorem WX5_6 : tmFP RX5 true 5 6 := tmFP_of (C := RX5) (T := TX5) (N := 8) rfl (Or.inr ⟨rfl, rfl, rfl⟩)
theorem WX5_7 : tmFP RX5 true 5 7 := tmFP_of (C := RX5) (T := TX5) (N := 8) rfl (Or.inr ⟨rfl, rfl, rfl⟩)
theorem WX6_0 : tmFP RX6 true 6 0 := tmFP_of (C := RX6) (T := TX6) (N := 4) rfl (Or.inr ⟨rfl, rfl, rfl⟩)
theorem WX6_1 : tmFP RX6 true 6 1 := tmFP_of (C := RX6) (T := TX6) (N := 4) rfl (Or.inr ⟨rfl, rfl, rfl⟩)
theorem WX6_2 (own : String) (ini : Bool) : tmFP own ini 6 2 := tmFP_of (C := RX6) (T := TX6) (N := 4) rfl (Or.inl rfl)
theorem WX6_3 : tmFP RX6 true 6 3 := tmFP_of (C := RX6) (T := TX6) (N := 4) rfl (Or.inr ⟨rfl, rfl, rfl⟩)
theorem WX7_0 : tmFP RX7 true 7 0 := tmFP_of (C := RX7) (T := TX7) (N := 3) rfl (Or.inr ⟨rfl, rfl, rfl⟩)
theorem WX7_1 (own : String) (ini : Bool) : tmFP own ini 7 1 := tmFP_of (C := RX7) (T := TX7) (N := 3) rfl (Or.inl rfl)
theorem WX7_2 (own : String) (ini : Bool) : tmFP own ini 7 2 := tmFP_of (C := RX7) (T := TX7) (N := 3) rfl (Or.inl rfl)
theorem WX8_0 (own : String) (ini : Bool) : tmFP own ini 8 0 := tmFP_of (C := RX8) (T := TX8) (N := 6) rfl (Or.inl rfl)
theorem WX8_1 : tmFP RX8 true 8 1 := tmFP_of (C := RX8) (T := TX8) (N := 6) rfl (Or.inr ⟨rfl, rfl, rfl⟩)
theorem WX8_2 : tmFP RX8 true 8 2 := tmFP_of (C := RX8) (T := TX8) (N := 6) rfl (Or.inr ⟨rfl, rfl, rfl⟩)
theorem WX8_3 : tmFP RX8 true 8 3 := tmFP_of (C := RX8) (T := TX8) (N := 6) rfl (Or.inr ⟨rfl, rfl, rfl⟩)
theorem WX8_4 : tmFP RX8 true 8 4 := tmFP_of (C := RX8) (T := TX8) (N := 6) rfl (Or.inr ⟨rfl, rfl, rfl⟩)
theorem WX8_5 : tmFP RX8 true 8 5 := tmFP_of (C := RX8) (T := TX8) (N := 6) rfl (Or.inr ⟨rfl, rfl, rfl⟩)
theorem WX9_0 : tmFP RX9 true 9 0 := tmFP_of (C := RX9) (T := TX9) (N := 9) rfl (Or.inr ⟨rfl, rfl, rfl⟩)
theorem WX9_1 (own : String) (ini : Bool) : tmFP own ini 9 1 := tmFP_of (C := RX9) (T := TX9) (N := 9) rfl (Or.inl rfl)
theorem WX9_2 : tmFP RX9 true 9 2 := tmFP_of (C := RX9) (T := TX9) (N := 9) rfl (Or.inr ⟨rfl, rfl, rfl⟩)
theorem WX9_3 : tmFP RX9 true 9 3 := tmFP_of (C := RX9) (T := TX9) (N := 9) rfl (Or.inr ⟨rfl, rfl, rfl⟩)
theorem WX9_4 : tmFP RX9 true 9 4 := tmFP_of (C := RX9) (T := TX9) (N := 9) rfl (Or.inr ⟨rfl, rfl, rfl⟩)
theorem WX9_5 : tmFP RX9 true 9 5 := tmFP_of (C := RX9) (T := TX9) (N := 9) rfl (Or.inr ⟨rfl, rfl, rfl⟩)
theorem WX9_6 : tmFP RX9 true 9 6 := tmFP_of (C := RX9) (T := TX9) (N := 9) rfl (Or.inr ⟨rfl, rfl, rfl⟩)
theorem WX9_7 (own : String) (ini : Bool) : tmFP own ini 9 7 := tmFP_of (C := RX9) (T := TX9) (N := 9) rfl (Or.inl rfl)
theorem WX9_8 (own : String) (ini : Bool) : tmFP own ini 9 8 := tmFP_of (C := RX9) (T := TX9) (N := 9) rfl (Or.inl rfl)
theorem WX10_0 : tmFP RX10 true 10 0 := tmFP_of (C := RX10) (T := TX10) (N := 4) rfl (Or.inr ⟨rfl, rfl, rfl⟩)
theorem WX10_1 : tmFP RX10 true 10 1 := tmFP_of (C := RX10) (T := TX10) (N := 4) rfl (Or.inr ⟨rfl, rfl, rfl⟩)
theorem WX10_2 (own : String) (ini : Bool) : tmFP own ini 10 2 := tmFP_of (C := RX10) (T := TX10) (N := 4) rfl (Or.inl rfl)
theorem WX10_3 (own : String) (ini : Bool) : tmFP own ini 10 3 := tmFP_of (C := RX10) (T := TX10) (N := 4) rfl (Or.inl rfl)
theorem WX11_0 : tmFP RX11 true 11 0 := tmFP_of (C := RX11) (T := TX11) (N := 11) rfl (Or.inr ⟨rfl, rfl, rfl⟩)
theorem WX11_1 : tmFP RX11 true 11 1 := tmFP_of (C := RX11) (T := TX11) (N := 11) rfl (Or.inr ⟨rfl, rfl, rfl⟩)
theorem WX11_2 : tmFP RX11 true 11 2 := tmFP_of (C := RX11) (T := TX11) (N := 11) rfl (Or.inr ⟨rfl, rfl, rfl⟩)
theorem WX11_3 : tmFP RX11 true 11 3 := tmFP_of (C := RX11) (T := TX11) (N := 11) rfl (Or.inr ⟨rfl, rfl, rfl⟩)
theorem WX11_4 : tmFP RX11 true 11 4 := tmFP_of (C := RX11) (T := TX11) (N := 11) rfl (Or.inr ⟨rfl, rfl, rfl⟩)
theorem WX11_5 : tmFP RX11 true 11 5 := tmFP_of (C := RX11) (T := TX11) (N := 11) rfl (Or.inr ⟨rfl, rfl, rfl⟩)
theorem WX11_6 : tmFP RX11 true 11 6 := tmFP_of (C := RX11) (T := TX11) (N := 11) rfl (Or.inr ⟨rfl, rfl, rfl⟩)
theorem WX11_7 : tmFP RX11 true 11 7 := tmFP_of (C := RX11) (T := TX11) (N := 11) rfl (Or.inr ⟨rfl, rfl, rfl⟩)
theorem WX11_8 : tmFP RX11 true 11 8 := tmFP_of (C := RX11) (T := TX11) (N := 11) rfl (Or.inr ⟨rfl, rfl, rfl⟩)
theorem WX11_9 (own : String) (ini : Bool) : tmFP own ini 11 9 := tmFP_of (C := RX11) (T := TX11) (N := 11) rfl (Or.inl rfl)
theorem WX11_10 (own : String) (ini : Bool) : tmFP own ini 11 10 := tmFP_of (C := RX11) (T := TX11) (N := 11) rfl (Or.inl rfl)
theorem WX12_0 : tmFP RX12 true 12 0 := tmFP_of (C := RX12) (T := TX12) (N := 33) rfl (Or.inr ⟨rfl, rfl, rfl⟩)
theorem WX12_1 : tmFP RX12 true 12 1 := tmFP_of (C := RX12) (T := TX12) (N := 33) rfl (Or.inr ⟨rfl, rfl, rfl⟩)
theorem WX12_2 (own : String) (ini : Bool) : tmFP own ini 12 2 := tmFP_of (C := RX12) (T := TX12) (N := 33) rfl (Or.inl rfl)
theorem WX12_3 : tmFP RX12 true 12 3 := tmFP_of (C := RX12) (T := TX12) (N := 33) rfl (Or.inr ⟨rfl, rfl, rfl⟩)
theorem WX12_4 : tmFP RX12 true 12 4 := tmFP_of (C := RX12) (T := TX12) (N := 33) rfl (Or.inr ⟨rfl, rfl, rfl⟩)
theorem WX12_5 : tmFP RX12 true 12 5 := tmFP_of (C := RX12) (T := TX12) (N := 33) rfl (Or.inr ⟨rfl, rfl, rfl⟩)
theorem WX12_6 : tmFP RX12 true 12 6 := tmFP_of (C := RX12) (T := TX12) (N := 33) rfl (Or.inr ⟨rfl, rfl, rfl⟩)
theorem WX12_7 : tmFP RX12 true 12 7 := tmFP_of (C := RX12) (T := TX12) (N := 33) rfl (Or.inr ⟨rfl, rfl, rfl⟩)
theorem WX12_8 : tmFP RX12 true 12 8 := tmFP_of (C := RX12) (T := TX12) (N := 33) rfl (Or.inr ⟨rfl, rfl, rfl⟩)
theorem WX12_9 (own : String) (ini : Bool) : tmFP own ini 12 9 := tmFP_of (C := RX12) (T := TX12) (N := 33) rfl (Or.inl rfl)
theorem WX12_10 (own : String) (ini : Bool) : tmFP own ini 12 10 := tmFP_of (C := RX12) (T := TX12) (N := 33) rfl (Or.inl rfl)
theorem WX12_11 : tmFP RX12 true 12 11 := tmFP_of (C := RX12) (T := TX12) (N := 33) rfl (Or.inr ⟨rfl, rfl, rfl⟩)
theorem WX12_12 (own : String) (ini : Bool) : tmFP own ini 12 12 := tmFP_of (C := RX12) (T := TX12) (N := 33) rfl (Or.inl rfl)
theorem WX12_13 : tmFP RX12 true 12 13 := tmFP_of (C := RX12) (T := TX12) (N := 33) rfl (Or.inr ⟨rfl, rfl, rfl⟩)
theorem WX12_14 (own : String) (ini : Bool) : tmFP own ini 12 14 := tmFP_of (C := RX12) (T := TX12) (N := 33) rfl (Or.inl rfl)
theorem WX12_15 (own : String) (ini : Bool) : tmFP own ini 12 15 := tmFP_of (C := RX12) (T := TX12) (N := 33) rfl (Or.inl rfl)
theorem WX12_16 (own : String) (ini : Bool) : tmFP own ini 12 16 := tmFP_of (C := RX12) (T := TX12) (N := 33) rfl (Or.inl rfl)
theorem WX12_17 : tmFP RX12 true 12 17 := tmFP_of (C := RX12) (T := TX12) (N := 33) rfl (Or.inr ⟨rfl, rfl, rfl⟩)
theorem WX12_18 : tmFP RX12 true 12 18 := tmFP_of (C := RX12) (T := TX12) (N := 33) rfl (Or.inr ⟨rfl, rfl, rfl⟩)
theorem WX12_19 : tmFP RX12 true 12 19 := tmFP_of (C := RX12) (T := TX12) (N := 33) rfl (Or.inr ⟨rfl, rfl, rfl⟩)
theorem WX12_20 (own : String) (ini : Bool) : tmFP own ini 12 20 := tmFP_of (C := RX12) (T := TX12) (N := 33) rfl (Or.inl rfl)
theorem WX12_21 : tmFP RX12 true 12 21 := tmFP_of (C := RX12) (T := TX12) (N := 33) rfl (Or.inr ⟨rfl, rfl, rfl⟩)
theorem WX12_22 : tmFP RX12 true 12 22 := tmFP_of (C := RX12) (T := TX12) (N := 33) rfl (Or.inr ⟨rfl, rfl, rfl⟩)
theorem WX12_23 : tmFP RX12 true 12 23 := tmFP_of (C := RX12) (T := TX12) (N := 33) rfl (Or.inr ⟨rfl, rfl, rfl⟩)
theorem WX12_24 : tmFP RX12 true 12 24 := tmFP_of (C := RX12) (T := TX12) (N := 33) rfl (Or.inr ⟨rfl, rfl, rfl⟩)
theorem WX12_25 : tmFP RX12 true 12 25 := tmFP_of (C := RX12) (T := TX12) (N := 33) rfl (Or.inr ⟨rfl, rfl, rfl⟩)
theorem WX12_26 : tmFP RX12 true 12 26 := tmFP_of (C := RX12) (T := TX12) (N := 33) rfl (Or.inr ⟨rfl, rfl, rfl⟩)
theorem WX12_27 : tmFP RX12 true 12 27 := tmFP_of (C := RX12) (T := TX12) (N := 33) rfl (Or.inr ⟨rfl, rfl, rfl⟩)
theorem WX12_28 : tmFP RX12 true 12 28 := tmFP_of (C := RX12) (T := TX12) (N := 33) rfl (Or.inr ⟨rfl, rfl, rfl⟩)
theorem WX12_29 : tmFP RX12 true 12 29 := tmFP_of (C := RX12) (T := TX12) (N := 33) rfl (Or.inr ⟨rfl, rfl, rfl⟩)
theorem WX12_30 : tmFP RX12 true 12 30 := tmFP_of (C := RX12) (T := TX12) (N := 33) rfl (Or.inr ⟨rfl, rfl, rfl⟩)
theorem WX12_31 (own : String) (ini : Bool) : tmFP own ini 12 31 := tmFP_of (C := RX12) (T := TX12) (N := 33) rfl (Or.inl rfl)
theorem WX12_32 (own : String) (ini : Bool) : tmFP own ini 12 32 := tmFP_of (C := RX12) (T := TX12) (N := 33) rfl (Or.inl rfl)
abbrev kX11_init : tmMS := (RX11, cX11_init, 1, none, true)
theorem KX11_init : tmKI yX11_init kX11_init 0 := ⟨⟨tmT_a1 26 (by decide +kernel) rfl, tmT_a1 1 (by decide +kernel) rfl, (by decide +kernel), by decide⟩, tmT_a1 25 (by decide +kernel) rfl, rfl, rfl⟩
abbrev kX6_init : tmMS := (RX6, cX6_init, 2, none, true)
theorem KX6_init : tmKI yX6_init kX6_init 0 := ⟨⟨tmT_a1 34 (by decide +kernel) rfl, tmT_a1 2 (by decide +kernel) rfl, (by decide +kernel), by decide⟩, tmT_a1 33 (by decide +kernel) rfl, rfl, rfl⟩
abbrev kX8_init : tmMS := (RX8, cX8_init, 1, none, true)
theorem KX8_init : tmKI yX8_init kX8_init 0 := ⟨⟨tmT_a1 40 (by decide +kernel) rfl, tmT_a1 3 (by decide +kernel) rfl, (by decide +kernel), by decide⟩, tmT_a1 39 (by decide +kernel) rfl, rfl, rfl⟩
abbrev kX2_init : tmMS := (RX2, cX2_init, 3, none, true)
theorem KX2_init : tmKI yX2_init kX2_init 1 := ⟨⟨tmT_a1 88 (by decide +kernel) rfl, tmT_a1 4 (by decide +kernel) rfl, (by decide +kernel), by decide⟩, tmT_a1 87 (by decide +kernel) rfl, rfl, rfl⟩
abbrev kJ9_max_7cf53 : tmMS := (RJ9, cJ9_max_7cf53, 2, some .int, false)
theorem KJ9_max_7cf53 : tmKS yJ9_max_7cf53 kJ9_max_7cf53 2 := ⟨⟨tmT_a1 92 (by decide +kernel) rfl, tmT_a1 5 (by decide +kernel) rfl, (by decide +kernel), by decide⟩, tmT_a1 91 (by decide +kernel) rfl⟩
abbrev kX7_init : tmMS := (RX7, cX7_init, 2, none, true)
theorem KX7_init : tmKI yX7_init kX7_init 0 := ⟨⟨tmT_a1 151 (by decide +kernel) rfl, tmT_a1 6 (by decide +kernel) rfl, (by decide +kernel), by decide⟩, tmT_a1 150 (by decide +kernel) rfl, rfl, rfl⟩
abbrev kX5_init : tmMS := (RX5, cX5_init, 1, none, true)
theorem KX5_init : tmKI yX5_init kX5_init 0 := ⟨⟨tmT_a1 171 (by decide +kernel) rfl, tmT_a1 7 (by decide +kernel) rfl, (by decide +kernel), by decide⟩, tmT_a1 170 (by decide +kernel) rfl, rfl, rfl⟩
abbrev kJ7_fill_53178 : tmMS := (RJ7, cJ7_fill_53178, 4, none, false)
theorem KJ7_fill_53178 : tmKS yJ7_fill_53178 kJ7_fill_53178 2 := ⟨⟨tmT_a1 175 (by decide +kernel) rfl, tmT_a1 8 (by decide +kernel) rfl, (by decide +kernel), by decide⟩, tmT_a1 174 (by decide +kernel) rfl⟩
abbrev kX0_init : tmMS := (RX0, cX0_init, 2, none, true)
theorem KX0_init : tmKI yX0_init kX0_init 1 := ⟨⟨tmT_a1 207 (by decide +kernel) rfl, tmT_a1 9 (by decide +kernel) rfl, (by decide +kernel), by decide⟩, tmT_a1 206 (by decide +kernel) rfl, rfl, rfl⟩
abbrev kX4_init : tmMS := (RX4, cX4_init, 3, none, true)
theorem KX4_init : tmKI yX4_init kX4_init 2 := ⟨⟨tmT_a1 224 (by decide +kernel) rfl, tmT_a1 10 (by decide +kernel) rfl, (by decide +kernel), by decide⟩, tmT_a1 223 (by decide +kernel) rfl, rfl, rfl⟩
abbrev kX1_init : tmMS := (RX1, cX1_init, 2, none, true)
theorem KX1_init : tmKI yX1_init kX1_init 1 := ⟨⟨tmT_a1 230 (by decide +kernel) rfl, tmT_a1 11 (by decide +kernel) rfl, (by decide +kernel), by decide⟩, tmT_a1 229 (by decide +kernel) rfl, rfl, rfl⟩
abbrev kX3_init : tmMS := (RX3, cX3_init, 5, none, true)
theorem KX3_init : tmKI yX3_init kX3_init 4 := ⟨⟨tmT_a2 29 (by decide +kernel) rfl, tmT_a1 12 (by decide +kernel) rfl, (by decide +kernel), by decide⟩, tmT_a2 28 (by decide +kernel) rfl, rfl, rfl⟩
abbrev kX9_init : tmMS := (RX9, cX9_init, 3, none, true)
theorem KX9_init : tmKI yX9_init kX9_init 2 := ⟨⟨tmT_a2 63 (by decide +kernel) rfl, tmT_a1 13 (by decide +kernel) rfl, (by decide +kernel), by decide⟩, tmT_a2 62 (by decide +kernel) rfl, rfl, rfl⟩
abbrev kX10_init : tmMS := (RX10, cX10_init, 1, none, true)
theorem KX10_init : tmKI yX10_init kX10_init 0 := ⟨⟨tmT_a2 101 (by decide +kernel) rfl, tmT_a1 14 (by decide +kernel) rfl, (by decide +kernel), by decide⟩, tmT_a2 100 (by decide +kernel) rfl, rfl, rfl⟩
abbrev kX11_term : tmMS := (RX11, cX11_term, 9, some .int, false)
theorem KX11_term : tmKV yX11_term kX11_term 3 := ⟨⟨tmT_a2 154 (by decide +kernel) rfl, tmT_a1 1 (by decide +kernel) rfl, (by decide +kernel), by decide⟩, tmT_a2 152 (by decide +kernel) rfl, tmT_a2 153 (by decide +kernel) rfl⟩
abbrev kX11_refuse : tmMS := (RX11, cX11_refuse, 3, some .int, false)
theorem KX11_refuse : tmKV yX11_refuse kX11_refuse 1 := ⟨⟨tmT_a2 158 (by decide +kernel) rfl, tmT_a1 1 (by decide +kernel) rfl, (by decide +kernel), by decide⟩, tmT_a2 157 (by decide +kernel) rfl, tmT_sel (q := (yX11_refuse, 11)) (List.mem_of_getElem? (i := 0) (by decide +kernel))⟩
abbrev kX8_has : tmMS := (RX8, cX8_has, 2, some .boolean, false)
theorem KX8_has : tmKV yX8_has kX8_has 1 := ⟨⟨tmT_a2 162 (by decide +kernel) rfl, tmT_a1 3 (by decide +kernel) rfl, (by decide +kernel), by decide⟩, tmT_a2 160 (by decide +kernel) rfl, tmT_a2 161 (by decide +kernel) rfl⟩
abbrev kX8_lookUp : tmMS := (RX8, cX8_lookUp, 5, some .int, false)
theorem KX8_lookUp : tmKV yX8_lookUp kX8_lookUp 3 := ⟨⟨tmT_a2 166 (by decide +kernel) rfl, tmT_a1 3 (by decide +kernel) rfl, (by decide +kernel), by decide⟩, tmT_a2 164 (by decide +kernel) rfl, tmT_a2 165 (by decide +kernel) rfl⟩
abbrev kX7_keep : tmMS := (RX7, cX7_keep, 2, none, false)
theorem KX7_keep : tmKV yX7_keep kX7_keep 1 := ⟨⟨tmT_a2 170 (by decide +kernel) rfl, tmT_a1 6 (by decide +kernel) rfl, (by decide +kernel), by decide⟩, tmT_a2 168 (by decide +kernel) rfl, tmT_a2 169 (by decide +kernel) rfl⟩
abbrev kX7_prepare : tmMS := (RX7, cX7_prepare, 2, none, false)
theorem KX7_prepare : tmKV yX7_prepare kX7_prepare 1 := ⟨⟨tmT_a2 174 (by decide +kernel) rfl, tmT_a1 6 (by decide +kernel) rfl, (by decide +kernel), by decide⟩, tmT_a2 172 (by decide +kernel) rfl, tmT_a2 173 (by decide +kernel) rfl⟩
abbrev kX6_copyFrom : tmMS := (RX6, cX6_copyFrom, 3, none, false)
theorem KX6_copyFrom : tmKV yX6_copyFrom kX6_copyFrom 1 := ⟨⟨tmT_a2 178 (by decide +kernel) rfl, tmT_a1 2 (by decide +kernel) rfl, (by decide +kernel), by decide⟩, tmT_a2 176 (by decide +kernel) rfl, tmT_a2 177 (by decide +kernel) rfl⟩
abbrev kX8_copyFrom : tmMS := (RX8, cX8_copyFrom, 2, none, false)
theorem KX8_copyFrom : tmKV yX8_copyFrom kX8_copyFrom 1 := ⟨⟨tmT_a2 182 (by decide +kernel) rfl, tmT_a1 3 (by decide +kernel) rfl, (by decide +kernel), by decide⟩, tmT_a2 180 (by decide +kernel) rfl, tmT_a2 181 (by decide +kernel) rfl⟩
abbrev kX7_keepPrepared : tmMS := (RX7, cX7_keepPrepared, 1, none, false)
theorem KX7_keepPrepared : tmKV yX7_keepPrepared kX7_keepPrepared 0 := ⟨⟨tmT_a2 189 (by decide +kernel) rfl, tmT_a1 6 (by decide +kernel) rfl, (by decide +kernel), by decide⟩, tmT_a2 187 (by decide +kernel) rfl, tmT_a2 188 (by decide +kernel) rfl⟩
abbrev kJ9_min_7cf53 : tmMS := (RJ9, cJ9_min_7cf53, 2, some .int, false)
theorem KJ9_min_7cf53 : tmKS yJ9_min_7cf53 kJ9_min_7cf53 2 := ⟨⟨tmT_a2 192 (by decide +kernel) rfl, tmT_a1 5 (by decide +kernel) rfl, (by decide +kernel), by decide⟩, tmT_a2 191 (by decide +kernel) rfl⟩
abbrev kX8_add : tmMS := (RX8, cX8_add, 5, some .int, false)
theorem KX8_add : tmKV yX8_add kX8_add 4 := ⟨⟨tmT_a2 196 (by decide +kernel) rfl, tmT_a1 3 (by decide +kernel) rfl, (by decide +kernel), by decide⟩, tmT_a2 194 (by decide +kernel) rfl, tmT_a2 195 (by decide +kernel) rfl⟩
abbrev kX11_settleAll : tmMS := (RX11, cX11_settleAll, 1, none, false)
theorem KX11_settleAll : tmKV yX11_settleAll kX11_settleAll 0 := ⟨⟨tmT_a2 200 (by decide +kernel) rfl, tmT_a1 1 (by decide +kernel) rfl, (by decide +kernel), by decide⟩, tmT_a2 199 (by decide +kernel) rfl, tmT_sel (q := (yX11_settleAll, 11)) (List.mem_of_getElem? (i := 1) (by decide +kernel))⟩
abbrev kX5_settle : tmMS := (RX5, cX5_settle, 4, none, false)
theorem KX5_settle : tmKV yX5_settle kX5_settle 1 := ⟨⟨tmT_a2 204 (by decide +kernel) rfl, tmT_a1 7 (by decide +kernel) rfl, (by decide +kernel), by decide⟩, tmT_a2 202 (by decide +kernel) rfl, tmT_a2 203 (by decide +kernel) rfl⟩
abbrev kX5_sweep : tmMS := (RX5, cX5_sweep, 5, some .boolean, false)
theorem KX5_sweep : tmKV yX5_sweep kX5_sweep 1 := ⟨⟨tmT_a2 208 (by decide +kernel) rfl, tmT_a1 7 (by decide +kernel) rfl, (by decide +kernel), by decide⟩, tmT_a2 207 (by decide +kernel) rfl, tmT_sel (q := (yX5_sweep, 8)) (List.mem_of_getElem? (i := 2) (by decide +kernel))⟩
abbrev kX5_emptyPlaces : tmMS := (RX5, cX5_emptyPlaces, 2, none, false)
theorem KX5_emptyPlaces : tmKV yX5_emptyPlaces kX5_emptyPlaces 0 := ⟨⟨tmT_a2 212 (by decide +kernel) rfl, tmT_a1 7 (by decide +kernel) rfl, (by decide +kernel), by decide⟩, tmT_a2 211 (by decide +kernel) rfl, tmT_sel (q := (yX5_emptyPlaces, 8)) (List.mem_of_getElem? (i := 3) (by decide +kernel))⟩
abbrev kX8_homeOf : tmMS := (RX8, cX8_homeOf, 2, some .int, false)
theorem KX8_homeOf : tmKV yX8_homeOf kX8_homeOf 1 := ⟨⟨tmT_a2 216 (by decide +kernel) rfl, tmT_a1 3 (by decide +kernel) rfl, (by decide +kernel), by decide⟩, tmT_a2 214 (by decide +kernel) rfl, tmT_a2 215 (by decide +kernel) rfl⟩
abbrev kX5_keyOf : tmMS := (RX5, cX5_keyOf, 3, some .int, false)
theorem KX5_keyOf : tmKS yX5_keyOf kX5_keyOf 3 := ⟨⟨tmT_a2 220 (by decide +kernel) rfl, tmT_a1 7 (by decide +kernel) rfl, (by decide +kernel), by decide⟩, tmT_a2 219 (by decide +kernel) rfl⟩
abbrev kX5_tellPlace : tmMS := (RX5, cX5_tellPlace, 3, none, false)
theorem KX5_tellPlace : tmKV yX5_tellPlace kX5_tellPlace 2 := ⟨⟨tmT_a2 224 (by decide +kernel) rfl, tmT_a1 7 (by decide +kernel) rfl, (by decide +kernel), by decide⟩, tmT_a2 223 (by decide +kernel) rfl, tmT_sel (q := (yX5_tellPlace, 8)) (List.mem_of_getElem? (i := 4) (by decide +kernel))⟩
abbrev kX8_unite : tmMS := (RX8, cX8_unite, 8, some .boolean, false)
theorem KX8_unite : tmKV yX8_unite kX8_unite 2 := ⟨⟨tmT_a2 228 (by decide +kernel) rfl, tmT_a1 3 (by decide +kernel) rfl, (by decide +kernel), by decide⟩, tmT_a2 226 (by decide +kernel) rfl, tmT_a2 227 (by decide +kernel) rfl⟩
abbrev kX4_forget : tmMS := (RX4, cX4_forget, 1, none, false)
theorem KX4_forget : tmKV yX4_forget kX4_forget 0 := ⟨⟨tmT_a2 235 (by decide +kernel) rfl, tmT_a1 10 (by decide +kernel) rfl, (by decide +kernel), by decide⟩, tmT_a2 233 (by decide +kernel) rfl, tmT_a2 234 (by decide +kernel) rfl⟩
abbrev kX11_alike : tmMS := (RX11, cX11_alike, 4, some .int, false)
theorem KX11_alike : tmKV yX11_alike kX11_alike 2 := ⟨⟨tmT_a2 239 (by decide +kernel) rfl, tmT_a1 1 (by decide +kernel) rfl, (by decide +kernel), by decide⟩, tmT_a2 237 (by decide +kernel) rfl, tmT_a2 238 (by decide +kernel) rfl⟩
abbrev kX11_classes : tmMS := (RX11, cX11_classes, 1, some .int, false)
theorem KX11_classes : tmKV yX11_classes kX11_classes 0 := ⟨⟨tmT_a3 3 (by decide +kernel) rfl, tmT_a1 1 (by decide +kernel) rfl, (by decide +kernel), by decide⟩, tmT_a3 1 (by decide +kernel) rfl, tmT_a3 2 (by decide +kernel) rfl⟩
abbrev kX8_countClasses : tmMS := (RX8, cX8_countClasses, 4, some .int, false)
theorem KX8_countClasses : tmKV yX8_countClasses kX8_countClasses 1 := ⟨⟨tmT_a3 7 (by decide +kernel) rfl, tmT_a1 3 (by decide +kernel) rfl, (by decide +kernel), by decide⟩, tmT_a3 5 (by decide +kernel) rfl, tmT_a3 6 (by decide +kernel) rfl⟩
abbrev kX11_anew : tmMS := (RX11, cX11_anew, 2, some .int, false)
theorem KX11_anew : tmKV yX11_anew kX11_anew 0 := ⟨⟨tmT_a3 12 (by decide +kernel) rfl, tmT_a1 1 (by decide +kernel) rfl, (by decide +kernel), by decide⟩, tmT_a3 10 (by decide +kernel) rfl, tmT_a3 11 (by decide +kernel) rfl⟩
abbrev kX6_empty : tmMS := (RX6, cX6_empty, 1, none, false)
theorem KX6_empty : tmKV yX6_empty kX6_empty 0 := ⟨⟨tmT_a3 16 (by decide +kernel) rfl, tmT_a1 2 (by decide +kernel) rfl, (by decide +kernel), by decide⟩, tmT_a3 14 (by decide +kernel) rfl, tmT_a3 15 (by decide +kernel) rfl⟩
abbrev kX11_of : tmMS := (RX11, cX11_of, 3, some .int, false)
theorem KX11_of : tmKV yX11_of kX11_of 2 := ⟨⟨tmT_a3 20 (by decide +kernel) rfl, tmT_a1 1 (by decide +kernel) rfl, (by decide +kernel), by decide⟩, tmT_a3 18 (by decide +kernel) rfl, tmT_a3 19 (by decide +kernel) rfl⟩
abbrev kX11_same : tmMS := (RX11, cX11_same, 3, some .int, false)
theorem KX11_same : tmKV yX11_same kX11_same 2 := ⟨⟨tmT_a3 24 (by decide +kernel) rfl, tmT_a1 1 (by decide +kernel) rfl, (by decide +kernel), by decide⟩, tmT_a3 22 (by decide +kernel) rfl, tmT_a3 23 (by decide +kernel) rfl⟩
abbrev kX11_about : tmMS := (RX11, cX11_about, 4, some .int, false)
theorem KX11_about : tmKV yX11_about kX11_about 2 := ⟨⟨tmT_a3 29 (by decide +kernel) rfl, tmT_a1 1 (by decide +kernel) rfl, (by decide +kernel), by decide⟩, tmT_a3 27 (by decide +kernel) rfl, tmT_a3 28 (by decide +kernel) rfl⟩
abbrev kX8_countIn : tmMS := (RX8, cX8_countIn, 4, some .int, false)
theorem KX8_countIn : tmKV yX8_countIn kX8_countIn 1 := ⟨⟨tmT_a3 33 (by decide +kernel) rfl, tmT_a1 3 (by decide +kernel) rfl, (by decide +kernel), by decide⟩, tmT_a3 31 (by decide +kernel) rfl, tmT_a3 32 (by decide +kernel) rfl⟩
abbrev kX8_leastGeneration : tmMS := (RX8, cX8_leastGeneration, 4, some .int, false)
theorem KX8_leastGeneration : tmKV yX8_leastGeneration kX8_leastGeneration 1 := ⟨⟨tmT_a3 37 (by decide +kernel) rfl, tmT_a1 3 (by decide +kernel) rfl, (by decide +kernel), by decide⟩, tmT_a3 35 (by decide +kernel) rfl, tmT_a3 36 (by decide +kernel) rfl⟩
abbrev kX5_fewestSigns : tmMS := (RX5, cX5_fewestSigns, 8, some .int, false)
theorem KX5_fewestSigns : tmKV yX5_fewestSigns kX5_fewestSigns 2 := ⟨⟨tmT_a3 41 (by decide +kernel) rfl, tmT_a1 7 (by decide +kernel) rfl, (by decide +kernel), by decide⟩, tmT_a3 39 (by decide +kernel) rfl, tmT_a3 40 (by decide +kernel) rfl⟩
abbrev kX5_fewestOf : tmMS := (RX5, cX5_fewestOf, 2, some .int, false)
theorem KX5_fewestOf : tmKV yX5_fewestOf kX5_fewestOf 1 := ⟨⟨tmT_a3 46 (by decide +kernel) rfl, tmT_a1 7 (by decide +kernel) rfl, (by decide +kernel), by decide⟩, tmT_a3 45 (by decide +kernel) rfl, tmT_sel (q := (yX5_fewestOf, 8)) (List.mem_of_getElem? (i := 5) (by decide +kernel))⟩
abbrev kX8_countUsers : tmMS := (RX8, cX8_countUsers, 4, some .int, false)
theorem KX8_countUsers : tmKV yX8_countUsers kX8_countUsers 1 := ⟨⟨tmT_a3 50 (by decide +kernel) rfl, tmT_a1 3 (by decide +kernel) rfl, (by decide +kernel), by decide⟩, tmT_a3 48 (by decide +kernel) rfl, tmT_a3 49 (by decide +kernel) rfl⟩
abbrev kX11_rule : tmMS := (RX11, cX11_rule, 4, some .int, false)
theorem KX11_rule : tmKV yX11_rule kX11_rule 2 := ⟨⟨tmT_a3 54 (by decide +kernel) rfl, tmT_a1 1 (by decide +kernel) rfl, (by decide +kernel), by decide⟩, tmT_a3 52 (by decide +kernel) rfl, tmT_a3 53 (by decide +kernel) rfl⟩
abbrev kX6_hasRule : tmMS := (RX6, cX6_hasRule, 2, some .boolean, false)
theorem KX6_hasRule : tmKV yX6_hasRule kX6_hasRule 1 := ⟨⟨tmT_a3 58 (by decide +kernel) rfl, tmT_a1 2 (by decide +kernel) rfl, (by decide +kernel), by decide⟩, tmT_a3 56 (by decide +kernel) rfl, tmT_a3 57 (by decide +kernel) rfl⟩
abbrev kX6_ruleAt : tmMS := (RX6, cX6_ruleAt, 2, some (.object "TriggerMatches$Pattern"), false)
theorem KX6_ruleAt : tmKV yX6_ruleAt kX6_ruleAt 1 := ⟨⟨tmT_a3 62 (by decide +kernel) rfl, tmT_a1 2 (by decide +kernel) rfl, (by decide +kernel), by decide⟩, tmT_a3 60 (by decide +kernel) rfl, tmT_a3 61 (by decide +kernel) rfl⟩
abbrev kX2_lettersIn : tmMS := (RX2, cX2_lettersIn, 5, some .int, false)
theorem KX2_lettersIn : tmKV yX2_lettersIn kX2_lettersIn 2 := ⟨⟨tmT_a3 67 (by decide +kernel) rfl, tmT_a1 4 (by decide +kernel) rfl, (by decide +kernel), by decide⟩, tmT_a3 65 (by decide +kernel) rfl, tmT_a3 66 (by decide +kernel) rfl⟩
abbrev kJ6_bitCount_0f7a4 : tmMS := (RJ6, cJ6_bitCount_0f7a4, 1, some .int, false)
theorem KJ6_bitCount_0f7a4 : tmKS yJ6_bitCount_0f7a4 kJ6_bitCount_0f7a4 1 := ⟨⟨tmT_a3 70 (by decide +kernel) rfl, tmT_a1 17 (by decide +kernel) rfl, (by decide +kernel), by decide⟩, tmT_a3 69 (by decide +kernel) rfl⟩
abbrev kX2_signsIn : tmMS := (RX2, cX2_signsIn, 5, some .int, false)
theorem KX2_signsIn : tmKV yX2_signsIn kX2_signsIn 2 := ⟨⟨tmT_a3 77 (by decide +kernel) rfl, tmT_a1 4 (by decide +kernel) rfl, (by decide +kernel), by decide⟩, tmT_a3 75 (by decide +kernel) rfl, tmT_a3 76 (by decide +kernel) rfl⟩
abbrev kX4_look : tmMS := (RX4, cX4_look, 3, some (.object "TriggerMatches$Findings"), false)
theorem KX4_look : tmKV yX4_look kX4_look 1 := ⟨⟨tmT_a3 81 (by decide +kernel) rfl, tmT_a1 10 (by decide +kernel) rfl, (by decide +kernel), by decide⟩, tmT_a3 79 (by decide +kernel) rfl, tmT_a3 80 (by decide +kernel) rfl⟩
abbrev kX4_markGenerations : tmMS := (RX4, cX4_markGenerations, 4, none, false)
theorem KX4_markGenerations : tmKV yX4_markGenerations kX4_markGenerations 0 := ⟨⟨tmT_a3 85 (by decide +kernel) rfl, tmT_a1 10 (by decide +kernel) rfl, (by decide +kernel), by decide⟩, tmT_a3 84 (by decide +kernel) rfl, tmT_sel (q := (yX4_markGenerations, 7)) (List.mem_of_getElem? (i := 6) (by decide +kernel))⟩
abbrev kX5_markParts : tmMS := (RX5, cX5_markParts, 6, none, false)
theorem KX5_markParts : tmKV yX5_markParts kX5_markParts 1 := ⟨⟨tmT_a3 91 (by decide +kernel) rfl, tmT_a1 7 (by decide +kernel) rfl, (by decide +kernel), by decide⟩, tmT_a3 89 (by decide +kernel) rfl, tmT_a3 90 (by decide +kernel) rfl⟩
abbrev kJ7_fill_d0a16 : tmMS := (RJ7, cJ7_fill_d0a16, 5, none, false)
theorem KJ7_fill_d0a16 : tmKS yJ7_fill_d0a16 kJ7_fill_d0a16 2 := ⟨⟨tmT_a3 94 (by decide +kernel) rfl, tmT_a1 8 (by decide +kernel) rfl, (by decide +kernel), by decide⟩, tmT_a3 93 (by decide +kernel) rfl⟩
abbrev kX4_stands : tmMS := (RX4, cX4_stands, 5, some .boolean, false)
theorem KX4_stands : tmKV yX4_stands kX4_stands 2 := ⟨⟨tmT_a3 99 (by decide +kernel) rfl, tmT_a1 10 (by decide +kernel) rfl, (by decide +kernel), by decide⟩, tmT_a3 98 (by decide +kernel) rfl, tmT_sel (q := (yX4_stands, 7)) (List.mem_of_getElem? (i := 7) (by decide +kernel))⟩
abbrev kX4_chosenFor : tmMS := (RX4, cX4_chosenFor, 2, some .int, false)
theorem KX4_chosenFor : tmKV yX4_chosenFor kX4_chosenFor 1 := ⟨⟨tmT_a3 103 (by decide +kernel) rfl, tmT_a1 10 (by decide +kernel) rfl, (by decide +kernel), by decide⟩, tmT_a3 102 (by decide +kernel) rfl, tmT_sel (q := (yX4_chosenFor, 7)) (List.mem_of_getElem? (i := 8) (by decide +kernel))⟩
abbrev kX4_valueOf : tmMS := (RX4, cX4_valueOf, 2, some .int, false)
theorem KX4_valueOf : tmKV yX4_valueOf kX4_valueOf 1 := ⟨⟨tmT_a3 107 (by decide +kernel) rfl, tmT_a1 10 (by decide +kernel) rfl, (by decide +kernel), by decide⟩, tmT_a3 106 (by decide +kernel) rfl, tmT_sel (q := (yX4_valueOf, 7)) (List.mem_of_getElem? (i := 9) (by decide +kernel))⟩
abbrev kX4_choose : tmMS := (RX4, cX4_choose, 7, none, false)
theorem KX4_choose : tmKV yX4_choose kX4_choose 3 := ⟨⟨tmT_a3 113 (by decide +kernel) rfl, tmT_a1 10 (by decide +kernel) rfl, (by decide +kernel), by decide⟩, tmT_a3 112 (by decide +kernel) rfl, tmT_sel (q := (yX4_choose, 7)) (List.mem_of_getElem? (i := 10) (by decide +kernel))⟩
abbrev kX4_note : tmMS := (RX4, cX4_note, 5, none, false)
theorem KX4_note : tmKV yX4_note kX4_note 1 := ⟨⟨tmT_a3 117 (by decide +kernel) rfl, tmT_a1 10 (by decide +kernel) rfl, (by decide +kernel), by decide⟩, tmT_a3 116 (by decide +kernel) rfl, tmT_sel (q := (yX4_note, 7)) (List.mem_of_getElem? (i := 11) (by decide +kernel))⟩
abbrev kX4_leastOf : tmMS := (RX4, cX4_leastOf, 2, some .int, false)
theorem KX4_leastOf : tmKV yX4_leastOf kX4_leastOf 1 := ⟨⟨tmT_a3 121 (by decide +kernel) rfl, tmT_a1 10 (by decide +kernel) rfl, (by decide +kernel), by decide⟩, tmT_a3 120 (by decide +kernel) rfl, tmT_sel (q := (yX4_leastOf, 7)) (List.mem_of_getElem? (i := 12) (by decide +kernel))⟩
abbrev kX1_add : tmMS := (RX1, cX1_add, 9, none, false)
theorem KX1_add : tmKV yX1_add kX1_add 6 := ⟨⟨tmT_a3 126 (by decide +kernel) rfl, tmT_a1 11 (by decide +kernel) rfl, (by decide +kernel), by decide⟩, tmT_a3 124 (by decide +kernel) rfl, tmT_a3 125 (by decide +kernel) rfl⟩
abbrev kX1_isFull : tmMS := (RX1, cX1_isFull, 1, some .boolean, false)
theorem KX1_isFull : tmKV yX1_isFull kX1_isFull 0 := ⟨⟨tmT_a3 130 (by decide +kernel) rfl, tmT_a1 11 (by decide +kernel) rfl, (by decide +kernel), by decide⟩, tmT_a3 128 (by decide +kernel) rfl, tmT_a3 129 (by decide +kernel) rfl⟩
abbrev kX4_fitting : tmMS := (RX4, cX4_fitting, 6, some .long, false)
theorem KX4_fitting : tmKV yX4_fitting kX4_fitting 2 := ⟨⟨tmT_a3 134 (by decide +kernel) rfl, tmT_a1 10 (by decide +kernel) rfl, (by decide +kernel), by decide⟩, tmT_a3 133 (by decide +kernel) rfl, tmT_sel (q := (yX4_fitting, 7)) (List.mem_of_getElem? (i := 13) (by decide +kernel))⟩
abbrev kX2_isLetter : tmMS := (RX2, cX2_isLetter, 3, some .boolean, false)
theorem KX2_isLetter : tmKV yX2_isLetter kX2_isLetter 2 := ⟨⟨tmT_a3 139 (by decide +kernel) rfl, tmT_a1 4 (by decide +kernel) rfl, (by decide +kernel), by decide⟩, tmT_a3 137 (by decide +kernel) rfl, tmT_a3 138 (by decide +kernel) rfl⟩
abbrev kX4_knownValue : tmMS := (RX4, cX4_knownValue, 4, some .int, false)
theorem KX4_knownValue : tmKV yX4_knownValue kX4_knownValue 3 := ⟨⟨tmT_a3 143 (by decide +kernel) rfl, tmT_a1 10 (by decide +kernel) rfl, (by decide +kernel), by decide⟩, tmT_a3 142 (by decide +kernel) rfl, tmT_sel (q := (yX4_knownValue, 7)) (List.mem_of_getElem? (i := 14) (by decide +kernel))⟩
abbrev kX2_stageOf : tmMS := (RX2, cX2_stageOf, 2, some .int, false)
theorem KX2_stageOf : tmKV yX2_stageOf kX2_stageOf 1 := ⟨⟨tmT_a3 147 (by decide +kernel) rfl, tmT_a1 4 (by decide +kernel) rfl, (by decide +kernel), by decide⟩, tmT_a3 145 (by decide +kernel) rfl, tmT_a3 146 (by decide +kernel) rfl⟩
abbrev kX5_firstsFor : tmMS := (RX5, cX5_firstsFor, 3, some .long, false)
theorem KX5_firstsFor : tmKV yX5_firstsFor kX5_firstsFor 2 := ⟨⟨tmT_a3 151 (by decide +kernel) rfl, tmT_a1 7 (by decide +kernel) rfl, (by decide +kernel), by decide⟩, tmT_a3 149 (by decide +kernel) rfl, tmT_a3 150 (by decide +kernel) rfl⟩
abbrev kX5_secondsFor : tmMS := (RX5, cX5_secondsFor, 2, some .long, false)
theorem KX5_secondsFor : tmKV yX5_secondsFor kX5_secondsFor 1 := ⟨⟨tmT_a3 155 (by decide +kernel) rfl, tmT_a1 7 (by decide +kernel) rfl, (by decide +kernel), by decide⟩, tmT_a3 153 (by decide +kernel) rfl, tmT_a3 154 (by decide +kernel) rfl⟩
abbrev kX1_countInTime : tmMS := (RX1, cX1_countInTime, 4, some .int, false)
theorem KX1_countInTime : tmKV yX1_countInTime kX1_countInTime 1 := ⟨⟨tmT_a3 160 (by decide +kernel) rfl, tmT_a1 11 (by decide +kernel) rfl, (by decide +kernel), by decide⟩, tmT_a3 158 (by decide +kernel) rfl, tmT_a3 159 (by decide +kernel) rfl⟩
abbrev kX1_isLate : tmMS := (RX1, cX1_isLate, 3, some .boolean, false)
theorem KX1_isLate : tmKV yX1_isLate kX1_isLate 2 := ⟨⟨tmT_a3 164 (by decide +kernel) rfl, tmT_a1 11 (by decide +kernel) rfl, (by decide +kernel), by decide⟩, tmT_a3 162 (by decide +kernel) rfl, tmT_a3 163 (by decide +kernel) rfl⟩
abbrev kX1_tell : tmMS := (RX1, cX1_tell, 3, some .int, false)
theorem KX1_tell : tmKV yX1_tell kX1_tell 2 := ⟨⟨tmT_a3 168 (by decide +kernel) rfl, tmT_a1 11 (by decide +kernel) rfl, (by decide +kernel), by decide⟩, tmT_a3 166 (by decide +kernel) rfl, tmT_a3 167 (by decide +kernel) rfl⟩
abbrev kX11_finding : tmMS := (RX11, cX11_finding, 5, some .int, false)
theorem KX11_finding : tmKV yX11_finding kX11_finding 3 := ⟨⟨tmT_a3 173 (by decide +kernel) rfl, tmT_a1 1 (by decide +kernel) rfl, (by decide +kernel), by decide⟩, tmT_a3 171 (by decide +kernel) rfl, tmT_a3 172 (by decide +kernel) rfl⟩
abbrev kX11_drop : tmMS := (RX11, cX11_drop, 2, some .int, false)
theorem KX11_drop : tmKV yX11_drop kX11_drop 1 := ⟨⟨tmT_a3 178 (by decide +kernel) rfl, tmT_a1 1 (by decide +kernel) rfl, (by decide +kernel), by decide⟩, tmT_a3 176 (by decide +kernel) rfl, tmT_a3 177 (by decide +kernel) rfl⟩
abbrev kX6_removeRule : tmMS := (RX6, cX6_removeRule, 3, none, false)
theorem KX6_removeRule : tmKV yX6_removeRule kX6_removeRule 1 := ⟨⟨tmT_a3 182 (by decide +kernel) rfl, tmT_a1 2 (by decide +kernel) rfl, (by decide +kernel), by decide⟩, tmT_a3 180 (by decide +kernel) rfl, tmT_a3 181 (by decide +kernel) rfl⟩
abbrev kX11_sets : tmMS := (RX11, cX11_sets, 5, some .int, false)
theorem KX11_sets : tmKV yX11_sets kX11_sets 2 := ⟨⟨tmT_a3 186 (by decide +kernel) rfl, tmT_a1 1 (by decide +kernel) rfl, (by decide +kernel), by decide⟩, tmT_a3 184 (by decide +kernel) rfl, tmT_a3 185 (by decide +kernel) rfl⟩
abbrev kX11_round : tmMS := (RX11, cX11_round, 1, some .int, false)
theorem KX11_round : tmKV yX11_round kX11_round 0 := ⟨⟨tmT_a3 190 (by decide +kernel) rfl, tmT_a1 1 (by decide +kernel) rfl, (by decide +kernel), by decide⟩, tmT_a3 188 (by decide +kernel) rfl, tmT_a3 189 (by decide +kernel) rfl⟩
abbrev kX3_run : tmMS := (RX3, cX3_run, 5, some .int, false)
theorem KX3_run : tmKV yX3_run kX3_run 2 := ⟨⟨tmT_a3 194 (by decide +kernel) rfl, tmT_a1 12 (by decide +kernel) rfl, (by decide +kernel), by decide⟩, tmT_a3 192 (by decide +kernel) rfl, tmT_a3 193 (by decide +kernel) rfl⟩
abbrev kX3_collect : tmMS := (RX3, cX3_collect, 5, none, false)
theorem KX3_collect : tmKV yX3_collect kX3_collect 1 := ⟨⟨tmT_a3 199 (by decide +kernel) rfl, tmT_a1 12 (by decide +kernel) rfl, (by decide +kernel), by decide⟩, tmT_a3 198 (by decide +kernel) rfl, tmT_sel (q := (yX3_collect, 8)) (List.mem_of_getElem? (i := 15) (by decide +kernel))⟩
abbrev kX1_addFrom : tmMS := (RX1, cX1_addFrom, 3, none, false)
theorem KX1_addFrom : tmKV yX1_addFrom kX1_addFrom 2 := ⟨⟨tmT_a3 205 (by decide +kernel) rfl, tmT_a1 11 (by decide +kernel) rfl, (by decide +kernel), by decide⟩, tmT_a3 203 (by decide +kernel) rfl, tmT_a3 204 (by decide +kernel) rfl⟩
abbrev kX3_arrange : tmMS := (RX3, cX3_arrange, 5, none, false)
theorem KX3_arrange : tmKV yX3_arrange kX3_arrange 1 := ⟨⟨tmT_a3 209 (by decide +kernel) rfl, tmT_a1 12 (by decide +kernel) rfl, (by decide +kernel), by decide⟩, tmT_a3 208 (by decide +kernel) rfl, tmT_sel (q := (yX3_arrange, 8)) (List.mem_of_getElem? (i := 16) (by decide +kernel))⟩
abbrev kX3_keyOf : tmMS := (RX3, cX3_keyOf, 4, some .int, false)
theorem KX3_keyOf : tmKV yX3_keyOf kX3_keyOf 2 := ⟨⟨tmT_a3 213 (by decide +kernel) rfl, tmT_a1 12 (by decide +kernel) rfl, (by decide +kernel), by decide⟩, tmT_a3 212 (by decide +kernel) rfl, tmT_sel (q := (yX3_keyOf, 8)) (List.mem_of_getElem? (i := 17) (by decide +kernel))⟩
abbrev kX3_doOne : tmMS := (RX3, cX3_doOne, 9, some .boolean, false)
theorem KX3_doOne : tmKV yX3_doOne kX3_doOne 1 := ⟨⟨tmT_a3 220 (by decide +kernel) rfl, tmT_a1 12 (by decide +kernel) rfl, (by decide +kernel), by decide⟩, tmT_a3 219 (by decide +kernel) rfl, tmT_sel (q := (yX3_doOne, 8)) (List.mem_of_getElem? (i := 18) (by decide +kernel))⟩
abbrev kX3_buildRight : tmMS := (RX3, cX3_buildRight, 4, some .int, false)
theorem KX3_buildRight : tmKV yX3_buildRight kX3_buildRight 2 := ⟨⟨tmT_a3 225 (by decide +kernel) rfl, tmT_a1 12 (by decide +kernel) rfl, (by decide +kernel), by decide⟩, tmT_a3 224 (by decide +kernel) rfl, tmT_sel (q := (yX3_buildRight, 8)) (List.mem_of_getElem? (i := 19) (by decide +kernel))⟩
abbrev kX0_build : tmMS := (RX0, cX0_build, 8, some .int, false)
theorem KX0_build : tmKV yX0_build kX0_build 4 := ⟨⟨tmT_a3 231 (by decide +kernel) rfl, tmT_a1 9 (by decide +kernel) rfl, (by decide +kernel), by decide⟩, tmT_a3 229 (by decide +kernel) rfl, tmT_a3 230 (by decide +kernel) rfl⟩
abbrev kX0_termOf : tmMS := (RX0, cX0_termOf, 8, some .int, false)
theorem KX0_termOf : tmKV yX0_termOf kX0_termOf 3 := ⟨⟨tmT_a3 235 (by decide +kernel) rfl, tmT_a1 9 (by decide +kernel) rfl, (by decide +kernel), by decide⟩, tmT_a3 234 (by decide +kernel) rfl, tmT_sel (q := (yX0_termOf, 3)) (List.mem_of_getElem? (i := 20) (by decide +kernel))⟩
abbrev kX0_madeOf : tmMS := (RX0, cX0_madeOf, 2, some .int, false)
theorem KX0_madeOf : tmKV yX0_madeOf kX0_madeOf 1 := ⟨⟨tmT_a3 239 (by decide +kernel) rfl, tmT_a1 9 (by decide +kernel) rfl, (by decide +kernel), by decide⟩, tmT_a3 237 (by decide +kernel) rfl, tmT_a3 238 (by decide +kernel) rfl⟩
abbrev kX11_rounds : tmMS := (RX11, cX11_rounds, 3, some .int, false)
theorem KX11_rounds : tmKV yX11_rounds kX11_rounds 1 := ⟨⟨tmT_a4 8 (by decide +kernel) rfl, tmT_a1 1 (by decide +kernel) rfl, (by decide +kernel), by decide⟩, tmT_a4 6 (by decide +kernel) rfl, tmT_a4 7 (by decide +kernel) rfl⟩
abbrev kX11_last : tmMS := (RX11, cX11_last, 2, some .int, false)
theorem KX11_last : tmKV yX11_last kX11_last 1 := ⟨⟨tmT_a4 12 (by decide +kernel) rfl, tmT_a1 1 (by decide +kernel) rfl, (by decide +kernel), by decide⟩, tmT_a4 10 (by decide +kernel) rfl, tmT_a4 11 (by decide +kernel) rfl⟩
abbrev kX11_still : tmMS := (RX11, cX11_still, 1, some .int, false)
theorem KX11_still : tmKV yX11_still kX11_still 0 := ⟨⟨tmT_a4 16 (by decide +kernel) rfl, tmT_a1 1 (by decide +kernel) rfl, (by decide +kernel), by decide⟩, tmT_a4 14 (by decide +kernel) rfl, tmT_a4 15 (by decide +kernel) rfl⟩
abbrev kX3_wouldChange : tmMS := (RX3, cX3_wouldChange, 5, some .boolean, false)
theorem KX3_wouldChange : tmKV yX3_wouldChange kX3_wouldChange 1 := ⟨⟨tmT_a4 20 (by decide +kernel) rfl, tmT_a1 12 (by decide +kernel) rfl, (by decide +kernel), by decide⟩, tmT_a4 18 (by decide +kernel) rfl, tmT_a4 19 (by decide +kernel) rfl⟩
abbrev kX3_wouldChangeBy : tmMS := (RX3, cX3_wouldChangeBy, 6, some .boolean, false)
theorem KX3_wouldChangeBy : tmKV yX3_wouldChangeBy kX3_wouldChangeBy 2 := ⟨⟨tmT_a4 24 (by decide +kernel) rfl, tmT_a1 12 (by decide +kernel) rfl, (by decide +kernel), by decide⟩, tmT_a4 23 (by decide +kernel) rfl, tmT_sel (q := (yX3_wouldChangeBy, 8)) (List.mem_of_getElem? (i := 21) (by decide +kernel))⟩
abbrev kX11_type : tmMS := (RX11, cX11_type, 2, some .int, false)
theorem KX11_type : tmKV yX11_type kX11_type 1 := ⟨⟨tmT_a4 28 (by decide +kernel) rfl, tmT_a1 1 (by decide +kernel) rfl, (by decide +kernel), by decide⟩, tmT_a4 26 (by decide +kernel) rfl, tmT_a4 27 (by decide +kernel) rfl⟩
abbrev kX11_clear : tmMS := (RX11, cX11_clear, 2, some .int, false)
theorem KX11_clear : tmKV yX11_clear kX11_clear 0 := ⟨⟨tmT_a4 32 (by decide +kernel) rfl, tmT_a1 1 (by decide +kernel) rfl, (by decide +kernel), by decide⟩, tmT_a4 30 (by decide +kernel) rfl, tmT_a4 31 (by decide +kernel) rfl⟩
abbrev kX11_reads : tmMS := (RX11, cX11_reads, 2, some .int, false)
theorem KX11_reads : tmKV yX11_reads kX11_reads 0 := ⟨⟨tmT_a4 36 (by decide +kernel) rfl, tmT_a1 1 (by decide +kernel) rfl, (by decide +kernel), by decide⟩, tmT_a4 34 (by decide +kernel) rfl, tmT_a4 35 (by decide +kernel) rfl⟩
abbrev kX9_read : tmMS := (RX9, cX9_read, 2, some .int, false)
theorem KX9_read : tmKV yX9_read kX9_read 0 := ⟨⟨tmT_a4 41 (by decide +kernel) rfl, tmT_a1 13 (by decide +kernel) rfl, (by decide +kernel), by decide⟩, tmT_a4 39 (by decide +kernel) rfl, tmT_a4 40 (by decide +kernel) rfl⟩
abbrev kX9_peek : tmMS := (RX9, cX9_peek, 1, some .int, false)
theorem KX9_peek : tmKV yX9_peek kX9_peek 0 := ⟨⟨tmT_a4 45 (by decide +kernel) rfl, tmT_a1 13 (by decide +kernel) rfl, (by decide +kernel), by decide⟩, tmT_a4 44 (by decide +kernel) rfl, tmT_sel (q := (yX9_peek, 9)) (List.mem_of_getElem? (i := 22) (by decide +kernel))⟩
abbrev kX9_sentence : tmMS := (RX9, cX9_sentence, 2, some .boolean, false)
theorem KX9_sentence : tmKV yX9_sentence kX9_sentence 0 := ⟨⟨tmT_a4 49 (by decide +kernel) rfl, tmT_a1 13 (by decide +kernel) rfl, (by decide +kernel), by decide⟩, tmT_a4 48 (by decide +kernel) rfl, tmT_sel (q := (yX9_sentence, 9)) (List.mem_of_getElem? (i := 23) (by decide +kernel))⟩
abbrev kX2_empty : tmMS := (RX2, cX2_empty, 1, none, false)
theorem KX2_empty : tmKV yX2_empty kX2_empty 0 := ⟨⟨tmT_a4 53 (by decide +kernel) rfl, tmT_a1 4 (by decide +kernel) rfl, (by decide +kernel), by decide⟩, tmT_a4 51 (by decide +kernel) rfl, tmT_a4 52 (by decide +kernel) rfl⟩
abbrev kX9_readSide : tmMS := (RX9, cX9_readSide, 4, some .boolean, false)
theorem KX9_readSide : tmKV yX9_readSide kX9_readSide 1 := ⟨⟨tmT_a4 57 (by decide +kernel) rfl, tmT_a1 13 (by decide +kernel) rfl, (by decide +kernel), by decide⟩, tmT_a4 56 (by decide +kernel) rfl, tmT_sel (q := (yX9_readSide, 9)) (List.mem_of_getElem? (i := 24) (by decide +kernel))⟩
abbrev kX9_signOf : tmMS := (RX9, cX9_signOf, 2, some .int, false)
theorem KX9_signOf : tmKS yX9_signOf kX9_signOf 1 := ⟨⟨tmT_a4 60 (by decide +kernel) rfl, tmT_a1 13 (by decide +kernel) rfl, (by decide +kernel), by decide⟩, tmT_a4 59 (by decide +kernel) rfl⟩
abbrev kJ0_charAt_5068e : tmMS := (RJ0, cJ0_charAt_5068e, 2, some .char, false)
theorem KJ0_charAt_5068e : tmKV yJ0_charAt_5068e kJ0_charAt_5068e 1 := ⟨⟨tmT_a4 65 (by decide +kernel) rfl, tmT_a1 18 (by decide +kernel) rfl, (by decide +kernel), by decide⟩, tmT_a4 63 (by decide +kernel) rfl, tmT_a4 64 (by decide +kernel) rfl⟩
abbrev kJ0_isLatin1_aae02 : tmMS := (RJ0, cJ0_isLatin1_aae02, 1, some .boolean, false)
theorem KJ0_isLatin1_aae02 : tmKV yJ0_isLatin1_aae02 kJ0_isLatin1_aae02 0 := ⟨⟨tmT_a4 69 (by decide +kernel) rfl, tmT_a1 18 (by decide +kernel) rfl, (by decide +kernel), by decide⟩, tmT_a4 67 (by decide +kernel) rfl, tmT_a4 68 (by decide +kernel) rfl⟩
abbrev kJ1_charAt_3b067 : tmMS := (RJ1, cJ1_charAt_3b067, 2, some .char, false)
theorem KJ1_charAt_3b067 : tmKS yJ1_charAt_3b067 kJ1_charAt_3b067 2 := ⟨⟨tmT_a4 74 (by decide +kernel) rfl, tmT_a1 19 (by decide +kernel) rfl, (by decide +kernel), by decide⟩, tmT_a4 73 (by decide +kernel) rfl⟩
abbrev kJ0_checkIndex_df160 : tmMS := (RJ0, cJ0_checkIndex_df160, 2, none, false)
end
section
theorem KJ0_checkIndex_df160 : tmKS yJ0_checkIndex_df160 kJ0_checkIndex_df160 2 := ⟨⟨tmT_a4 77 (by decide +kernel) rfl, tmT_a1 18 (by decide +kernel) rfl, (by decide +kernel), by decide⟩, tmT_a4 76 (by decide +kernel) rfl⟩
abbrev kJ3_checkIndex_8e157 : tmMS := (RJ3, cJ3_checkIndex_8e157, 3, some .int, false)
theorem KJ3_checkIndex_8e157 : tmKS yJ3_checkIndex_8e157 kJ3_checkIndex_8e157 3 := ⟨⟨tmT_a4 82 (by decide +kernel) rfl, tmT_a1 20 (by decide +kernel) rfl, (by decide +kernel), by decide⟩, tmT_a4 81 (by decide +kernel) rfl⟩
abbrev kJ2_charAt_3b067 : tmMS := (RJ2, cJ2_charAt_3b067, 2, some .char, false)
theorem KJ2_charAt_3b067 : tmKS yJ2_charAt_3b067 kJ2_charAt_3b067 2 := ⟨⟨tmT_a4 85 (by decide +kernel) rfl, tmT_a1 21 (by decide +kernel) rfl, (by decide +kernel), by decide⟩, tmT_a4 84 (by decide +kernel) rfl⟩
abbrev kJ2_checkIndex_2214a : tmMS := (RJ2, cJ2_checkIndex_2214a, 2, none, false)
theorem KJ2_checkIndex_2214a : tmKS yJ2_checkIndex_2214a kJ2_checkIndex_2214a 2 := ⟨⟨tmT_a4 88 (by decide +kernel) rfl, tmT_a1 21 (by decide +kernel) rfl, (by decide +kernel), by decide⟩, tmT_a4 87 (by decide +kernel) rfl⟩
abbrev kJ2_length_9d52b : tmMS := (RJ2, cJ2_length_9d52b, 1, some .int, false)
theorem KJ2_length_9d52b : tmKS yJ2_length_9d52b kJ2_length_9d52b 1 := ⟨⟨tmT_a4 91 (by decide +kernel) rfl, tmT_a1 21 (by decide +kernel) rfl, (by decide +kernel), by decide⟩, tmT_a4 90 (by decide +kernel) rfl⟩
abbrev kJ2_getChar_3b067 : tmMS := (RJ2, cJ2_getChar_3b067, 2, some .char, false)
theorem KJ2_getChar_3b067 : tmKS yJ2_getChar_3b067 kJ2_getChar_3b067 2 := ⟨⟨tmT_a4 95 (by decide +kernel) rfl, tmT_a1 21 (by decide +kernel) rfl, (by decide +kernel), by decide⟩, tmT_a4 94 (by decide +kernel) rfl⟩
abbrev kX9_take : tmMS := (RX9, cX9_take, 2, some .boolean, false)
theorem KX9_take : tmKV yX9_take kX9_take 1 := ⟨⟨tmT_a4 105 (by decide +kernel) rfl, tmT_a1 13 (by decide +kernel) rfl, (by decide +kernel), by decide⟩, tmT_a4 104 (by decide +kernel) rfl, tmT_sel (q := (yX9_take, 9)) (List.mem_of_getElem? (i := 25) (by decide +kernel))⟩
abbrev kX9_open : tmMS := (RX9, cX9_open, 2, some .boolean, false)
theorem KX9_open : tmKV yX9_open kX9_open 1 := ⟨⟨tmT_a4 109 (by decide +kernel) rfl, tmT_a1 13 (by decide +kernel) rfl, (by decide +kernel), by decide⟩, tmT_a4 108 (by decide +kernel) rfl, tmT_sel (q := (yX9_open, 9)) (List.mem_of_getElem? (i := 26) (by decide +kernel))⟩
abbrev kX2_add : tmMS := (RX2, cX2_add, 4, some .int, false)
theorem KX2_add : tmKV yX2_add kX2_add 3 := ⟨⟨tmT_a4 113 (by decide +kernel) rfl, tmT_a1 4 (by decide +kernel) rfl, (by decide +kernel), by decide⟩, tmT_a4 111 (by decide +kernel) rfl, tmT_a4 112 (by decide +kernel) rfl⟩
abbrev kX9_closeBehind : tmMS := (RX9, cX9_closeBehind, 5, some .boolean, false)
theorem KX9_closeBehind : tmKV yX9_closeBehind kX9_closeBehind 1 := ⟨⟨tmT_a4 118 (by decide +kernel) rfl, tmT_a1 13 (by decide +kernel) rfl, (by decide +kernel), by decide⟩, tmT_a4 117 (by decide +kernel) rfl, tmT_sel (q := (yX9_closeBehind, 9)) (List.mem_of_getElem? (i := 27) (by decide +kernel))⟩
abbrev kX9_ruleSentence : tmMS := (RX9, cX9_ruleSentence, 3, some .boolean, false)
theorem KX9_ruleSentence : tmKV yX9_ruleSentence kX9_ruleSentence 1 := ⟨⟨tmT_a4 123 (by decide +kernel) rfl, tmT_a1 13 (by decide +kernel) rfl, (by decide +kernel), by decide⟩, tmT_a4 122 (by decide +kernel) rfl, tmT_sel (q := (yX9_ruleSentence, 9)) (List.mem_of_getElem? (i := 28) (by decide +kernel))⟩
abbrev kX2_copied : tmMS := (RX2, cX2_copied, 2, some (.object "TriggerMatches$Pattern"), false)
theorem KX2_copied : tmKV yX2_copied kX2_copied 0 := ⟨⟨tmT_a4 127 (by decide +kernel) rfl, tmT_a1 4 (by decide +kernel) rfl, (by decide +kernel), by decide⟩, tmT_a4 125 (by decide +kernel) rfl, tmT_a4 126 (by decide +kernel) rfl⟩
abbrev kX6_addRule : tmMS := (RX6, cX6_addRule, 2, none, false)
theorem KX6_addRule : tmKV yX6_addRule kX6_addRule 1 := ⟨⟨tmT_a4 134 (by decide +kernel) rfl, tmT_a1 2 (by decide +kernel) rfl, (by decide +kernel), by decide⟩, tmT_a4 132 (by decide +kernel) rfl, tmT_a4 133 (by decide +kernel) rfl⟩
abbrev kX9_termSentence : tmMS := (RX9, cX9_termSentence, 4, some .boolean, false)
theorem KX9_termSentence : tmKV yX9_termSentence kX9_termSentence 0 := ⟨⟨tmT_a4 138 (by decide +kernel) rfl, tmT_a1 13 (by decide +kernel) rfl, (by decide +kernel), by decide⟩, tmT_a4 137 (by decide +kernel) rfl, tmT_sel (q := (yX9_termSentence, 9)) (List.mem_of_getElem? (i := 29) (by decide +kernel))⟩
abbrev kX7_undo : tmMS := (RX7, cX7_undo, 2, none, false)
theorem KX7_undo : tmKV yX7_undo kX7_undo 1 := ⟨⟨tmT_a4 147 (by decide +kernel) rfl, tmT_a1 6 (by decide +kernel) rfl, (by decide +kernel), by decide⟩, tmT_a4 145 (by decide +kernel) rfl, tmT_a4 146 (by decide +kernel) rfl⟩
abbrev kX11_writing : tmMS := (RX11, cX11_writing, 4, some .int, false)
theorem KX11_writing : tmKV yX11_writing kX11_writing 2 := ⟨⟨tmT_a4 152 (by decide +kernel) rfl, tmT_a1 1 (by decide +kernel) rfl, (by decide +kernel), by decide⟩, tmT_a4 150 (by decide +kernel) rfl, tmT_a4 151 (by decide +kernel) rfl⟩
abbrev kX10_write : tmMS := (RX10, cX10_write, 4, some .int, false)
theorem KX10_write : tmKV yX10_write kX10_write 2 := ⟨⟨tmT_a4 156 (by decide +kernel) rfl, tmT_a1 14 (by decide +kernel) rfl, (by decide +kernel), by decide⟩, tmT_a4 154 (by decide +kernel) rfl, tmT_a4 155 (by decide +kernel) rfl⟩
abbrev kX10_push : tmMS := (RX10, cX10_push, 2, none, false)
theorem KX10_push : tmKV yX10_push kX10_push 1 := ⟨⟨tmT_a4 160 (by decide +kernel) rfl, tmT_a1 14 (by decide +kernel) rfl, (by decide +kernel), by decide⟩, tmT_a4 159 (by decide +kernel) rfl, tmT_sel (q := (yX10_push, 4)) (List.mem_of_getElem? (i := 30) (by decide +kernel))⟩
abbrev kX10_writeTerm : tmMS := (RX10, cX10_writeTerm, 4, none, false)
theorem KX10_writeTerm : tmKV yX10_writeTerm kX10_writeTerm 2 := ⟨⟨tmT_a4 165 (by decide +kernel) rfl, tmT_a1 14 (by decide +kernel) rfl, (by decide +kernel), by decide⟩, tmT_a4 164 (by decide +kernel) rfl, tmT_sel (q := (yX10_writeTerm, 4)) (List.mem_of_getElem? (i := 31) (by decide +kernel))⟩
abbrev kX11_back : tmMS := (RX11, cX11_back, 1, some .int, false)
theorem KX11_back : tmKV yX11_back kX11_back 0 := ⟨⟨tmT_a4 171 (by decide +kernel) rfl, tmT_a1 1 (by decide +kernel) rfl, (by decide +kernel), by decide⟩, tmT_a4 169 (by decide +kernel) rfl, tmT_a4 170 (by decide +kernel) rfl⟩
abbrev kX7_goBack : tmMS := (RX7, cX7_goBack, 2, none, false)
theorem KX7_goBack : tmKV yX7_goBack kX7_goBack 1 := ⟨⟨tmT_a4 175 (by decide +kernel) rfl, tmT_a1 6 (by decide +kernel) rfl, (by decide +kernel), by decide⟩, tmT_a4 173 (by decide +kernel) rfl, tmT_a4 174 (by decide +kernel) rfl⟩
abbrev kX11_told : tmMS := (RX11, cX11_told, 2, some .int, false)
theorem KX11_told : tmKV yX11_told kX11_told 1 := ⟨⟨tmT_a4 179 (by decide +kernel) rfl, tmT_a1 1 (by decide +kernel) rfl, (by decide +kernel), by decide⟩, tmT_a4 177 (by decide +kernel) rfl, tmT_a4 178 (by decide +kernel) rfl⟩
abbrev kX11_digest : tmMS := (RX11, cX11_digest, 5, some .long, false)
theorem KX11_digest : tmKV yX11_digest kX11_digest 0 := ⟨⟨tmT_a4 183 (by decide +kernel) rfl, tmT_a1 1 (by decide +kernel) rfl, (by decide +kernel), by decide⟩, tmT_a4 181 (by decide +kernel) rfl, tmT_a4 182 (by decide +kernel) rfl⟩
abbrev kX12_init : tmMS := (RX12, cX12_init, 1, none, true)
theorem KX12_init : tmKI yX12_init kX12_init 0 := ⟨⟨tmT_a4 193 (by decide +kernel) rfl, tmT_a1 15 (by decide +kernel) rfl, (by decide +kernel), by decide⟩, tmT_a4 192 (by decide +kernel) rfl, rfl, rfl⟩
abbrev kX12_term : tmMS := (RX12, cX12_term, 7, some .int, false)
theorem KX12_term : tmKV yX12_term kX12_term 3 := ⟨⟨tmT_a5 58 (by decide +kernel) rfl, tmT_a1 15 (by decide +kernel) rfl, (by decide +kernel), by decide⟩, tmT_a5 56 (by decide +kernel) rfl, tmT_a5 57 (by decide +kernel) rfl⟩
abbrev kX12_in : tmMS := (RX12, cX12_in, 3, some .boolean, false)
theorem KX12_in : tmKS yX12_in kX12_in 3 := ⟨⟨tmT_a5 61 (by decide +kernel) rfl, tmT_a1 15 (by decide +kernel) rfl, (by decide +kernel), by decide⟩, tmT_a5 60 (by decide +kernel) rfl⟩
abbrev kX12_arity : tmMS := (RX12, cX12_arity, 1, some .int, false)
theorem KX12_arity : tmKS yX12_arity kX12_arity 1 := ⟨⟨tmT_a5 64 (by decide +kernel) rfl, tmT_a1 15 (by decide +kernel) rfl, (by decide +kernel), by decide⟩, tmT_a5 63 (by decide +kernel) rfl⟩
abbrev kX12_isTerm : tmMS := (RX12, cX12_isTerm, 2, some .boolean, false)
theorem KX12_isTerm : tmKV yX12_isTerm kX12_isTerm 1 := ⟨⟨tmT_a5 68 (by decide +kernel) rfl, tmT_a1 15 (by decide +kernel) rfl, (by decide +kernel), by decide⟩, tmT_a5 67 (by decide +kernel) rfl, tmT_sel (q := (yX12_isTerm, 33)) (List.mem_of_getElem? (i := 32) (by decide +kernel))⟩
abbrev kX12_refuses : tmMS := (RX12, cX12_refuses, 2, some .int, false)
theorem KX12_refuses : tmKV yX12_refuses kX12_refuses 1 := ⟨⟨tmT_a5 72 (by decide +kernel) rfl, tmT_a1 15 (by decide +kernel) rfl, (by decide +kernel), by decide⟩, tmT_a5 71 (by decide +kernel) rfl, tmT_sel (q := (yX12_refuses, 33)) (List.mem_of_getElem? (i := 33) (by decide +kernel))⟩
abbrev kX12_termOf : tmMS := (RX12, cX12_termOf, 5, some .int, false)
theorem KX12_termOf : tmKV yX12_termOf kX12_termOf 3 := ⟨⟨tmT_a5 76 (by decide +kernel) rfl, tmT_a1 15 (by decide +kernel) rfl, (by decide +kernel), by decide⟩, tmT_a5 75 (by decide +kernel) rfl, tmT_sel (q := (yX12_termOf, 33)) (List.mem_of_getElem? (i := 34) (by decide +kernel))⟩
abbrev kX12_keeps : tmMS := (RX12, cX12_keeps, 2, none, false)
theorem KX12_keeps : tmKV yX12_keeps kX12_keeps 0 := ⟨⟨tmT_a5 80 (by decide +kernel) rfl, tmT_a1 15 (by decide +kernel) rfl, (by decide +kernel), by decide⟩, tmT_a5 79 (by decide +kernel) rfl, tmT_sel (q := (yX12_keeps, 33)) (List.mem_of_getElem? (i := 35) (by decide +kernel))⟩
abbrev kX12_comes : tmMS := (RX12, cX12_comes, 6, some .int, false)
theorem KX12_comes : tmKV yX12_comes kX12_comes 4 := ⟨⟨tmT_a5 84 (by decide +kernel) rfl, tmT_a1 15 (by decide +kernel) rfl, (by decide +kernel), by decide⟩, tmT_a5 83 (by decide +kernel) rfl, tmT_sel (q := (yX12_comes, 33)) (List.mem_of_getElem? (i := 36) (by decide +kernel))⟩
abbrev kX12_closes : tmMS := (RX12, cX12_closes, 4, none, false)
theorem KX12_closes : tmKV yX12_closes kX12_closes 0 := ⟨⟨tmT_a5 88 (by decide +kernel) rfl, tmT_a1 15 (by decide +kernel) rfl, (by decide +kernel), by decide⟩, tmT_a5 87 (by decide +kernel) rfl, tmT_sel (q := (yX12_closes, 33)) (List.mem_of_getElem? (i := 37) (by decide +kernel))⟩
abbrev kX12_classOf : tmMS := (RX12, cX12_classOf, 2, some .int, false)
theorem KX12_classOf : tmKV yX12_classOf kX12_classOf 1 := ⟨⟨tmT_a5 92 (by decide +kernel) rfl, tmT_a1 15 (by decide +kernel) rfl, (by decide +kernel), by decide⟩, tmT_a5 91 (by decide +kernel) rfl, tmT_sel (q := (yX12_classOf, 33)) (List.mem_of_getElem? (i := 38) (by decide +kernel))⟩
abbrev kX12_isPart : tmMS := (RX12, cX12_isPart, 3, some .boolean, false)
theorem KX12_isPart : tmKV yX12_isPart kX12_isPart 2 := ⟨⟨tmT_a5 96 (by decide +kernel) rfl, tmT_a1 15 (by decide +kernel) rfl, (by decide +kernel), by decide⟩, tmT_a5 95 (by decide +kernel) rfl, tmT_sel (q := (yX12_isPart, 33)) (List.mem_of_getElem? (i := 39) (by decide +kernel))⟩
abbrev kX12_joins : tmMS := (RX12, cX12_joins, 8, some .boolean, false)
theorem KX12_joins : tmKV yX12_joins kX12_joins 2 := ⟨⟨tmT_a5 100 (by decide +kernel) rfl, tmT_a1 15 (by decide +kernel) rfl, (by decide +kernel), by decide⟩, tmT_a5 99 (by decide +kernel) rfl, tmT_sel (q := (yX12_joins, 33)) (List.mem_of_getElem? (i := 40) (by decide +kernel))⟩
abbrev kX12_alike : tmMS := (RX12, cX12_alike, 4, some .int, false)
theorem KX12_alike : tmKV yX12_alike kX12_alike 2 := ⟨⟨tmT_a5 104 (by decide +kernel) rfl, tmT_a1 15 (by decide +kernel) rfl, (by decide +kernel), by decide⟩, tmT_a5 102 (by decide +kernel) rfl, tmT_a5 103 (by decide +kernel) rfl⟩
abbrev kX12_classesOf : tmMS := (RX12, cX12_classesOf, 4, some .int, false)
theorem KX12_classesOf : tmKV yX12_classesOf kX12_classesOf 1 := ⟨⟨tmT_a5 108 (by decide +kernel) rfl, tmT_a1 15 (by decide +kernel) rfl, (by decide +kernel), by decide⟩, tmT_a5 107 (by decide +kernel) rfl, tmT_sel (q := (yX12_classesOf, 33)) (List.mem_of_getElem? (i := 41) (by decide +kernel))⟩
abbrev kX12_anew : tmMS := (RX12, cX12_anew, 2, some .int, false)
theorem KX12_anew : tmKV yX12_anew kX12_anew 0 := ⟨⟨tmT_a5 112 (by decide +kernel) rfl, tmT_a1 15 (by decide +kernel) rfl, (by decide +kernel), by decide⟩, tmT_a5 110 (by decide +kernel) rfl, tmT_a5 111 (by decide +kernel) rfl⟩
abbrev kX12_of : tmMS := (RX12, cX12_of, 3, some .int, false)
theorem KX12_of : tmKV yX12_of kX12_of 2 := ⟨⟨tmT_a5 116 (by decide +kernel) rfl, tmT_a1 15 (by decide +kernel) rfl, (by decide +kernel), by decide⟩, tmT_a5 114 (by decide +kernel) rfl, tmT_a5 115 (by decide +kernel) rfl⟩
abbrev kX12_same : tmMS := (RX12, cX12_same, 3, some .int, false)
theorem KX12_same : tmKV yX12_same kX12_same 2 := ⟨⟨tmT_a5 120 (by decide +kernel) rfl, tmT_a1 15 (by decide +kernel) rfl, (by decide +kernel), by decide⟩, tmT_a5 118 (by decide +kernel) rfl, tmT_a5 119 (by decide +kernel) rfl⟩
abbrev kX12_classes : tmMS := (RX12, cX12_classes, 1, some .int, false)
theorem KX12_classes : tmKV yX12_classes kX12_classes 0 := ⟨⟨tmT_a5 124 (by decide +kernel) rfl, tmT_a1 15 (by decide +kernel) rfl, (by decide +kernel), by decide⟩, tmT_a5 122 (by decide +kernel) rfl, tmT_a5 123 (by decide +kernel) rfl⟩
abbrev kX12_about : tmMS := (RX12, cX12_about, 8, some .int, false)
theorem KX12_about : tmKV yX12_about kX12_about 2 := ⟨⟨tmT_a5 128 (by decide +kernel) rfl, tmT_a1 15 (by decide +kernel) rfl, (by decide +kernel), by decide⟩, tmT_a5 126 (by decide +kernel) rfl, tmT_a5 127 (by decide +kernel) rfl⟩
abbrev kX12_costOf : tmMS := (RX12, cX12_costOf, 5, some .int, false)
theorem KX12_costOf : tmKV yX12_costOf kX12_costOf 1 := ⟨⟨tmT_a5 132 (by decide +kernel) rfl, tmT_a1 15 (by decide +kernel) rfl, (by decide +kernel), by decide⟩, tmT_a5 131 (by decide +kernel) rfl, tmT_sel (q := (yX12_costOf, 33)) (List.mem_of_getElem? (i := 42) (by decide +kernel))⟩
abbrev kX12_rule : tmMS := (RX12, cX12_rule, 5, some .int, false)
theorem KX12_rule : tmKV yX12_rule kX12_rule 2 := ⟨⟨tmT_a5 137 (by decide +kernel) rfl, tmT_a1 15 (by decide +kernel) rfl, (by decide +kernel), by decide⟩, tmT_a5 135 (by decide +kernel) rfl, tmT_a5 136 (by decide +kernel) rfl⟩
abbrev kX12_isRule : tmMS := (RX12, cX12_isRule, 2, some .boolean, false)
theorem KX12_isRule : tmKV yX12_isRule kX12_isRule 1 := ⟨⟨tmT_a5 141 (by decide +kernel) rfl, tmT_a1 15 (by decide +kernel) rfl, (by decide +kernel), by decide⟩, tmT_a5 140 (by decide +kernel) rfl, tmT_sel (q := (yX12_isRule, 33)) (List.mem_of_getElem? (i := 43) (by decide +kernel))⟩
abbrev kX12_lettersOf : tmMS := (RX12, cX12_lettersOf, 4, some .int, false)
theorem KX12_lettersOf : tmKV yX12_lettersOf kX12_lettersOf 1 := ⟨⟨tmT_a5 145 (by decide +kernel) rfl, tmT_a1 15 (by decide +kernel) rfl, (by decide +kernel), by decide⟩, tmT_a5 144 (by decide +kernel) rfl, tmT_sel (q := (yX12_lettersOf, 33)) (List.mem_of_getElem? (i := 44) (by decide +kernel))⟩
abbrev kX12_sizeOf : tmMS := (RX12, cX12_sizeOf, 3, some .int, false)
theorem KX12_sizeOf : tmKV yX12_sizeOf kX12_sizeOf 2 := ⟨⟨tmT_a5 149 (by decide +kernel) rfl, tmT_a1 15 (by decide +kernel) rfl, (by decide +kernel), by decide⟩, tmT_a5 148 (by decide +kernel) rfl, tmT_sel (q := (yX12_sizeOf, 33)) (List.mem_of_getElem? (i := 45) (by decide +kernel))⟩
abbrev kX12_signAt : tmMS := (RX12, cX12_signAt, 4, some .int, false)
theorem KX12_signAt : tmKV yX12_signAt kX12_signAt 3 := ⟨⟨tmT_a5 153 (by decide +kernel) rfl, tmT_a1 15 (by decide +kernel) rfl, (by decide +kernel), by decide⟩, tmT_a5 152 (by decide +kernel) rfl, tmT_sel (q := (yX12_signAt, 33)) (List.mem_of_getElem? (i := 46) (by decide +kernel))⟩
abbrev kX12_signsOf : tmMS := (RX12, cX12_signsOf, 5, some .int, false)
theorem KX12_signsOf : tmKV yX12_signsOf kX12_signsOf 2 := ⟨⟨tmT_a5 157 (by decide +kernel) rfl, tmT_a1 15 (by decide +kernel) rfl, (by decide +kernel), by decide⟩, tmT_a5 156 (by decide +kernel) rfl, tmT_sel (q := (yX12_signsOf, 33)) (List.mem_of_getElem? (i := 47) (by decide +kernel))⟩
abbrev kX12_table : tmMS := (RX12, cX12_table, 4, none, false)
theorem KX12_table : tmKV yX12_table kX12_table 0 := ⟨⟨tmT_a5 161 (by decide +kernel) rfl, tmT_a1 15 (by decide +kernel) rfl, (by decide +kernel), by decide⟩, tmT_a5 160 (by decide +kernel) rfl, tmT_sel (q := (yX12_table, 33)) (List.mem_of_getElem? (i := 48) (by decide +kernel))⟩
abbrev kX12_finds : tmMS := (RX12, cX12_finds, 7, none, false)
theorem KX12_finds : tmKV yX12_finds kX12_finds 1 := ⟨⟨tmT_a5 165 (by decide +kernel) rfl, tmT_a1 15 (by decide +kernel) rfl, (by decide +kernel), by decide⟩, tmT_a5 164 (by decide +kernel) rfl, tmT_sel (q := (yX12_finds, 33)) (List.mem_of_getElem? (i := 49) (by decide +kernel))⟩
abbrev kX12_isStand : tmMS := (RX12, cX12_isStand, 4, some .boolean, false)
theorem KX12_isStand : tmKV yX12_isStand kX12_isStand 3 := ⟨⟨tmT_a5 169 (by decide +kernel) rfl, tmT_a1 15 (by decide +kernel) rfl, (by decide +kernel), by decide⟩, tmT_a5 168 (by decide +kernel) rfl, tmT_sel (q := (yX12_isStand, 33)) (List.mem_of_getElem? (i := 50) (by decide +kernel))⟩
abbrev kX12_meets : tmMS := (RX12, cX12_meets, 5, none, false)
theorem KX12_meets : tmKV yX12_meets kX12_meets 1 := ⟨⟨tmT_a5 173 (by decide +kernel) rfl, tmT_a1 15 (by decide +kernel) rfl, (by decide +kernel), by decide⟩, tmT_a5 172 (by decide +kernel) rfl, tmT_sel (q := (yX12_meets, 33)) (List.mem_of_getElem? (i := 51) (by decide +kernel))⟩
abbrev kX12_placeOf : tmMS := (RX12, cX12_placeOf, 6, some .int, false)
theorem KX12_placeOf : tmKV yX12_placeOf kX12_placeOf 1 := ⟨⟨tmT_a5 177 (by decide +kernel) rfl, tmT_a1 15 (by decide +kernel) rfl, (by decide +kernel), by decide⟩, tmT_a5 176 (by decide +kernel) rfl, tmT_sel (q := (yX12_placeOf, 33)) (List.mem_of_getElem? (i := 52) (by decide +kernel))⟩
abbrev kX12_finding : tmMS := (RX12, cX12_finding, 4, some .int, false)
theorem KX12_finding : tmKV yX12_finding kX12_finding 3 := ⟨⟨tmT_a5 181 (by decide +kernel) rfl, tmT_a1 15 (by decide +kernel) rfl, (by decide +kernel), by decide⟩, tmT_a5 179 (by decide +kernel) rfl, tmT_a5 180 (by decide +kernel) rfl⟩
abbrev kX12_drop : tmMS := (RX12, cX12_drop, 4, some .int, false)
theorem KX12_drop : tmKV yX12_drop kX12_drop 1 := ⟨⟨tmT_a5 185 (by decide +kernel) rfl, tmT_a1 15 (by decide +kernel) rfl, (by decide +kernel), by decide⟩, tmT_a5 183 (by decide +kernel) rfl, tmT_a5 184 (by decide +kernel) rfl⟩
abbrev kX12_sets : tmMS := (RX12, cX12_sets, 4, some .int, false)
theorem KX12_sets : tmKV yX12_sets kX12_sets 2 := ⟨⟨tmT_a5 189 (by decide +kernel) rfl, tmT_a1 15 (by decide +kernel) rfl, (by decide +kernel), by decide⟩, tmT_a5 187 (by decide +kernel) rfl, tmT_a5 188 (by decide +kernel) rfl⟩
abbrev kX12_round : tmMS := (RX12, cX12_round, 1, some .int, false)
theorem KX12_round : tmKV yX12_round kX12_round 0 := ⟨⟨tmT_a5 193 (by decide +kernel) rfl, tmT_a1 15 (by decide +kernel) rfl, (by decide +kernel), by decide⟩, tmT_a5 191 (by decide +kernel) rfl, tmT_a5 192 (by decide +kernel) rfl⟩
abbrev kX12_goesRound : tmMS := (RX12, cX12_goesRound, 6, some .int, false)
theorem KX12_goesRound : tmKV yX12_goesRound kX12_goesRound 0 := ⟨⟨tmT_a5 197 (by decide +kernel) rfl, tmT_a1 15 (by decide +kernel) rfl, (by decide +kernel), by decide⟩, tmT_a5 196 (by decide +kernel) rfl, tmT_sel (q := (yX12_goesRound, 33)) (List.mem_of_getElem? (i := 53) (by decide +kernel))⟩
abbrev kX12_doesAll : tmMS := (RX12, cX12_doesAll, 8, some .int, false)
theorem KX12_doesAll : tmKV yX12_doesAll kX12_doesAll 3 := ⟨⟨tmT_a5 201 (by decide +kernel) rfl, tmT_a1 15 (by decide +kernel) rfl, (by decide +kernel), by decide⟩, tmT_a5 200 (by decide +kernel) rfl, tmT_sel (q := (yX12_doesAll, 33)) (List.mem_of_getElem? (i := 54) (by decide +kernel))⟩
abbrev kX12_does : tmMS := (RX12, cX12_does, 8, some .boolean, false)
theorem KX12_does : tmKV yX12_does kX12_does 2 := ⟨⟨tmT_a5 205 (by decide +kernel) rfl, tmT_a1 15 (by decide +kernel) rfl, (by decide +kernel), by decide⟩, tmT_a5 204 (by decide +kernel) rfl, tmT_sel (q := (yX12_does, 33)) (List.mem_of_getElem? (i := 55) (by decide +kernel))⟩
abbrev kX12_builds : tmMS := (RX12, cX12_builds, 10, some .int, false)
theorem KX12_builds : tmKV yX12_builds kX12_builds 4 := ⟨⟨tmT_a5 209 (by decide +kernel) rfl, tmT_a1 15 (by decide +kernel) rfl, (by decide +kernel), by decide⟩, tmT_a5 208 (by decide +kernel) rfl, tmT_sel (q := (yX12_builds, 33)) (List.mem_of_getElem? (i := 56) (by decide +kernel))⟩
abbrev kX12_made : tmMS := (RX12, cX12_made, 2, none, false)
theorem KX12_made : tmKV yX12_made kX12_made 1 := ⟨⟨tmT_a5 213 (by decide +kernel) rfl, tmT_a1 15 (by decide +kernel) rfl, (by decide +kernel), by decide⟩, tmT_a5 212 (by decide +kernel) rfl, tmT_sel (q := (yX12_made, 33)) (List.mem_of_getElem? (i := 57) (by decide +kernel))⟩
abbrev kX12_waiting : tmMS := (RX12, cX12_waiting, 6, some .int, false)
theorem KX12_waiting : tmKV yX12_waiting kX12_waiting 3 := ⟨⟨tmT_a5 217 (by decide +kernel) rfl, tmT_a1 15 (by decide +kernel) rfl, (by decide +kernel), by decide⟩, tmT_a5 216 (by decide +kernel) rfl, tmT_sel (q := (yX12_waiting, 33)) (List.mem_of_getElem? (i := 58) (by decide +kernel))⟩
abbrev kX12_rounds : tmMS := (RX12, cX12_rounds, 4, some .int, false)
theorem KX12_rounds : tmKV yX12_rounds kX12_rounds 1 := ⟨⟨tmT_a5 221 (by decide +kernel) rfl, tmT_a1 15 (by decide +kernel) rfl, (by decide +kernel), by decide⟩, tmT_a5 219 (by decide +kernel) rfl, tmT_a5 220 (by decide +kernel) rfl⟩
abbrev kX12_last : tmMS := (RX12, cX12_last, 2, some .int, false)
theorem KX12_last : tmKV yX12_last kX12_last 1 := ⟨⟨tmT_a5 225 (by decide +kernel) rfl, tmT_a1 15 (by decide +kernel) rfl, (by decide +kernel), by decide⟩, tmT_a5 223 (by decide +kernel) rfl, tmT_a5 224 (by decide +kernel) rfl⟩
abbrev kX12_still : tmMS := (RX12, cX12_still, 3, some .int, false)
theorem KX12_still : tmKV yX12_still kX12_still 0 := ⟨⟨tmT_a5 229 (by decide +kernel) rfl, tmT_a1 15 (by decide +kernel) rfl, (by decide +kernel), by decide⟩, tmT_a5 227 (by decide +kernel) rfl, tmT_a5 228 (by decide +kernel) rfl⟩
abbrev kX12_type : tmMS := (RX12, cX12_type, 2, some .int, false)
theorem KX12_type : tmKV yX12_type kX12_type 1 := ⟨⟨tmT_a5 233 (by decide +kernel) rfl, tmT_a1 15 (by decide +kernel) rfl, (by decide +kernel), by decide⟩, tmT_a5 231 (by decide +kernel) rfl, tmT_a5 232 (by decide +kernel) rfl⟩
abbrev kX12_clear : tmMS := (RX12, cX12_clear, 2, some .int, false)
theorem KX12_clear : tmKV yX12_clear kX12_clear 0 := ⟨⟨tmT_a5 237 (by decide +kernel) rfl, tmT_a1 15 (by decide +kernel) rfl, (by decide +kernel), by decide⟩, tmT_a5 235 (by decide +kernel) rfl, tmT_a5 236 (by decide +kernel) rfl⟩
abbrev kX12_reads : tmMS := (RX12, cX12_reads, 5, some .int, false)
theorem KX12_reads : tmKV yX12_reads kX12_reads 0 := ⟨⟨tmT_a6 1 (by decide +kernel) rfl, tmT_a1 15 (by decide +kernel) rfl, (by decide +kernel), by decide⟩, tmT_a5 239 (by decide +kernel) rfl, tmT_a6 0 (by decide +kernel) rfl⟩
abbrev kX12_skips : tmMS := (RX12, cX12_skips, 1, none, false)
theorem KX12_skips : tmKV yX12_skips kX12_skips 0 := ⟨⟨tmT_a6 5 (by decide +kernel) rfl, tmT_a1 15 (by decide +kernel) rfl, (by decide +kernel), by decide⟩, tmT_a6 4 (by decide +kernel) rfl, tmT_sel (q := (yX12_skips, 33)) (List.mem_of_getElem? (i := 59) (by decide +kernel))⟩
abbrev kX12_byteAt : tmMS := (RX12, cX12_byteAt, 2, some .int, false)
theorem KX12_byteAt : tmKV yX12_byteAt kX12_byteAt 1 := ⟨⟨tmT_a6 9 (by decide +kernel) rfl, tmT_a1 15 (by decide +kernel) rfl, (by decide +kernel), by decide⟩, tmT_a6 8 (by decide +kernel) rfl, tmT_sel (q := (yX12_byteAt, 33)) (List.mem_of_getElem? (i := 60) (by decide +kernel))⟩
abbrev kX12_sentence : tmMS := (RX12, cX12_sentence, 5, some .boolean, false)
theorem KX12_sentence : tmKV yX12_sentence kX12_sentence 0 := ⟨⟨tmT_a6 13 (by decide +kernel) rfl, tmT_a1 15 (by decide +kernel) rfl, (by decide +kernel), by decide⟩, tmT_a6 12 (by decide +kernel) rfl, tmT_sel (q := (yX12_sentence, 33)) (List.mem_of_getElem? (i := 61) (by decide +kernel))⟩
abbrev kX12_side : tmMS := (RX12, cX12_side, 6, some .boolean, false)
theorem KX12_side : tmKV yX12_side kX12_side 2 := ⟨⟨tmT_a6 17 (by decide +kernel) rfl, tmT_a1 15 (by decide +kernel) rfl, (by decide +kernel), by decide⟩, tmT_a6 16 (by decide +kernel) rfl, tmT_sel (q := (yX12_side, 33)) (List.mem_of_getElem? (i := 62) (by decide +kernel))⟩
abbrev kX12_signBy : tmMS := (RX12, cX12_signBy, 1, some .int, false)
theorem KX12_signBy : tmKS yX12_signBy kX12_signBy 1 := ⟨⟨tmT_a6 20 (by decide +kernel) rfl, tmT_a1 15 (by decide +kernel) rfl, (by decide +kernel), by decide⟩, tmT_a6 19 (by decide +kernel) rfl⟩
abbrev kX12_is : tmMS := (RX12, cX12_is, 3, some .boolean, false)
theorem KX12_is : tmKV yX12_is kX12_is 1 := ⟨⟨tmT_a6 24 (by decide +kernel) rfl, tmT_a1 15 (by decide +kernel) rfl, (by decide +kernel), by decide⟩, tmT_a6 23 (by decide +kernel) rfl, tmT_sel (q := (yX12_is, 33)) (List.mem_of_getElem? (i := 63) (by decide +kernel))⟩
abbrev kX12_rules : tmMS := (RX12, cX12_rules, 3, none, false)
theorem KX12_rules : tmKV yX12_rules kX12_rules 0 := ⟨⟨tmT_a6 28 (by decide +kernel) rfl, tmT_a1 15 (by decide +kernel) rfl, (by decide +kernel), by decide⟩, tmT_a6 27 (by decide +kernel) rfl, tmT_sel (q := (yX12_rules, 33)) (List.mem_of_getElem? (i := 64) (by decide +kernel))⟩
abbrev kX12_writing : tmMS := (RX12, cX12_writing, 7, some .int, false)
theorem KX12_writing : tmKV yX12_writing kX12_writing 2 := ⟨⟨tmT_a6 32 (by decide +kernel) rfl, tmT_a1 15 (by decide +kernel) rfl, (by decide +kernel), by decide⟩, tmT_a6 30 (by decide +kernel) rfl, tmT_a6 31 (by decide +kernel) rfl⟩
abbrev kX12_letterOf : tmMS := (RX12, cX12_letterOf, 1, some .int, false)
theorem KX12_letterOf : tmKS yX12_letterOf kX12_letterOf 1 := ⟨⟨tmT_a6 35 (by decide +kernel) rfl, tmT_a1 15 (by decide +kernel) rfl, (by decide +kernel), by decide⟩, tmT_a6 34 (by decide +kernel) rfl⟩
abbrev kX12_back : tmMS := (RX12, cX12_back, 2, some .int, false)
theorem KX12_back : tmKV yX12_back kX12_back 0 := ⟨⟨tmT_a6 39 (by decide +kernel) rfl, tmT_a1 15 (by decide +kernel) rfl, (by decide +kernel), by decide⟩, tmT_a6 37 (by decide +kernel) rfl, tmT_a6 38 (by decide +kernel) rfl⟩
abbrev kX12_told : tmMS := (RX12, cX12_told, 2, some .int, false)
theorem KX12_told : tmKV yX12_told kX12_told 1 := ⟨⟨tmT_a6 43 (by decide +kernel) rfl, tmT_a1 15 (by decide +kernel) rfl, (by decide +kernel), by decide⟩, tmT_a6 41 (by decide +kernel) rfl, tmT_a6 42 (by decide +kernel) rfl⟩
abbrev kX12_toldOf : tmMS := (RX12, cX12_toldOf, 2, some .int, false)
theorem KX12_toldOf : tmKV yX12_toldOf kX12_toldOf 1 := ⟨⟨tmT_a6 47 (by decide +kernel) rfl, tmT_a1 15 (by decide +kernel) rfl, (by decide +kernel), by decide⟩, tmT_a6 46 (by decide +kernel) rfl, tmT_sel (q := (yX12_toldOf, 33)) (List.mem_of_getElem? (i := 65) (by decide +kernel))⟩
abbrev kX12_digest : tmMS := (RX12, cX12_digest, 5, some .long, false)
theorem KX12_digest : tmKV yX12_digest kX12_digest 0 := ⟨⟨tmT_a6 51 (by decide +kernel) rfl, tmT_a1 15 (by decide +kernel) rfl, (by decide +kernel), by decide⟩, tmT_a6 49 (by decide +kernel) rfl, tmT_a6 50 (by decide +kernel) rfl⟩
theorem JL : Cond.initialized RL ∈ tmT := tmT_a1 0 (by decide +kernel) rfl
theorem JX11 : Cond.initialized RX11 ∈ tmT := tmT_a1 1 (by decide +kernel) rfl
theorem JX6 : Cond.initialized RX6 ∈ tmT := tmT_a1 2 (by decide +kernel) rfl
theorem JX8 : Cond.initialized RX8 ∈ tmT := tmT_a1 3 (by decide +kernel) rfl
theorem JX2 : Cond.initialized RX2 ∈ tmT := tmT_a1 4 (by decide +kernel) rfl
theorem JJ9 : Cond.initialized RJ9 ∈ tmT := tmT_a1 5 (by decide +kernel) rfl
theorem JX7 : Cond.initialized RX7 ∈ tmT := tmT_a1 6 (by decide +kernel) rfl
theorem JX5 : Cond.initialized RX5 ∈ tmT := tmT_a1 7 (by decide +kernel) rfl
theorem JJ7 : Cond.initialized RJ7 ∈ tmT := tmT_a1 8 (by decide +kernel) rfl
theorem JX0 : Cond.initialized RX0 ∈ tmT := tmT_a1 9 (by decide +kernel) rfl
theorem JX4 : Cond.initialized RX4 ∈ tmT := tmT_a1 10 (by decide +kernel) rfl
theorem JX1 : Cond.initialized RX1 ∈ tmT := tmT_a1 11 (by decide +kernel) rfl
theorem JX3 : Cond.initialized RX3 ∈ tmT := tmT_a1 12 (by decide +kernel) rfl
theorem JX9 : Cond.initialized RX9 ∈ tmT := tmT_a1 13 (by decide +kernel) rfl
theorem JX10 : Cond.initialized RX10 ∈ tmT := tmT_a1 14 (by decide +kernel) rfl
theorem JX12 : Cond.initialized RX12 ∈ tmT := tmT_a1 15 (by decide +kernel) rfl
theorem JJ10 : Cond.initialized RJ10 ∈ tmT := tmT_a1 16 (by decide +kernel) rfl
theorem JJ6 : Cond.initialized RJ6 ∈ tmT := tmT_a1 17 (by decide +kernel) rfl
theorem JJ0 : Cond.initialized RJ0 ∈ tmT := tmT_a1 18 (by decide +kernel) rfl
theorem JJ1 : Cond.initialized RJ1 ∈ tmT := tmT_a1 19 (by decide +kernel) rfl
theorem JJ3 : Cond.initialized RJ3 ∈ tmT := tmT_a1 20 (by decide +kernel) rfl
theorem JJ2 : Cond.initialized RJ2 ∈ tmT := tmT_a1 21 (by decide +kernel) rfl
theorem NL_7 : Cond.classLink RL 7 RX11 ∈ tmT := tmT_a1 22 (by decide +kernel) rfl
theorem IX11 : Cond.instantiable RX11 11 ∈ tmT := tmT_a1 23 (by decide +kernel) rfl
theorem LL_9 : Cond.methodLink RL 9 yX11_init ∈ tmT := tmT_a1 24 (by decide +kernel) rfl
theorem LX11_1 : Cond.methodLink RX11 1 Lib.objectInit ∈ tmT := tmT_a1 27 (by decide +kernel) rfl
theorem NX11_7 : Cond.classLink RX11 7 RX6 ∈ tmT := tmT_a1 30 (by decide +kernel) rfl
theorem IX6 : Cond.instantiable RX6 4 ∈ tmT := tmT_a1 31 (by decide +kernel) rfl
theorem LX11_9 : Cond.methodLink RX11 9 yX6_init ∈ tmT := tmT_a1 32 (by decide +kernel) rfl
theorem LX6_3 : Cond.methodLink RX6 3 Lib.objectInit ∈ tmT := tmT_a1 35 (by decide +kernel) rfl
theorem NX6_9 : Cond.classLink RX6 9 RX8 ∈ tmT := tmT_a1 36 (by decide +kernel) rfl
theorem IX8 : Cond.instantiable RX8 6 ∈ tmT := tmT_a1 37 (by decide +kernel) rfl
theorem LX8_3 : Cond.methodLink RX8 3 Lib.objectInit ∈ tmT := tmT_a1 41 (by decide +kernel) rfl
theorem NX6_18 : Cond.classLink RX6 18 RX2 ∈ tmT := tmT_a1 83 (by decide +kernel) rfl
theorem IX2 : Cond.instantiable RX2 6 ∈ tmT := tmT_a1 85 (by decide +kernel) rfl
theorem LX6_28 : Cond.methodLink RX6 28 yX2_init ∈ tmT := tmT_a1 86 (by decide +kernel) rfl
theorem LX2_3 : Cond.methodLink RX2 3 Lib.objectInit ∈ tmT := tmT_a1 89 (by decide +kernel) rfl
theorem LX2_18 : Cond.methodLink RX2 18 yJ9_max_7cf53 ∈ tmT := tmT_a1 90 (by decide +kernel) rfl
theorem NX11_16 : Cond.classLink RX11 16 RX7 ∈ tmT := tmT_a1 147 (by decide +kernel) rfl
theorem IX7 : Cond.instantiable RX7 3 ∈ tmT := tmT_a1 148 (by decide +kernel) rfl
theorem LX11_18 : Cond.methodLink RX11 18 yX7_init ∈ tmT := tmT_a1 149 (by decide +kernel) rfl
theorem LX7_3 : Cond.methodLink RX7 3 Lib.objectInit ∈ tmT := tmT_a1 152 (by decide +kernel) rfl
theorem NX7_11 : Cond.classLink RX7 11 RX6 ∈ tmT := tmT_a1 153 (by decide +kernel) rfl
theorem LX7_24 : Cond.methodLink RX7 24 yX6_init ∈ tmT := tmT_a1 155 (by decide +kernel) rfl
theorem NX11_23 : Cond.classLink RX11 23 RX5 ∈ tmT := tmT_a1 167 (by decide +kernel) rfl
theorem IX5 : Cond.instantiable RX5 8 ∈ tmT := tmT_a1 168 (by decide +kernel) rfl
theorem LX11_25 : Cond.methodLink RX11 25 yX5_init ∈ tmT := tmT_a1 169 (by decide +kernel) rfl
theorem LX5_3 : Cond.methodLink RX5 3 Lib.objectInit ∈ tmT := tmT_a1 172 (by decide +kernel) rfl
theorem LX5_39 : Cond.methodLink RX5 39 yJ7_fill_53178 ∈ tmT := tmT_a1 173 (by decide +kernel) rfl
theorem NX11_30 : Cond.classLink RX11 30 RX0 ∈ tmT := tmT_a1 203 (by decide +kernel) rfl
theorem IX0 : Cond.instantiable RX0 3 ∈ tmT := tmT_a1 204 (by decide +kernel) rfl
theorem LX11_36 : Cond.methodLink RX11 36 yX0_init ∈ tmT := tmT_a1 205 (by decide +kernel) rfl
theorem LX0_3 : Cond.methodLink RX0 3 Lib.objectInit ∈ tmT := tmT_a1 208 (by decide +kernel) rfl
theorem NX11_43 : Cond.classLink RX11 43 RX4 ∈ tmT := tmT_a1 220 (by decide +kernel) rfl
theorem IX4 : Cond.instantiable RX4 7 ∈ tmT := tmT_a1 221 (by decide +kernel) rfl
theorem LX11_45 : Cond.methodLink RX11 45 yX4_init ∈ tmT := tmT_a1 222 (by decide +kernel) rfl
theorem LX4_3 : Cond.methodLink RX4 3 Lib.objectInit ∈ tmT := tmT_a1 225 (by decide +kernel) rfl
theorem NX4_9 : Cond.classLink RX4 9 RX1 ∈ tmT := tmT_a1 226 (by decide +kernel) rfl
theorem IX1 : Cond.instantiable RX1 2 ∈ tmT := tmT_a1 227 (by decide +kernel) rfl
theorem LX4_11 : Cond.methodLink RX4 11 yX1_init ∈ tmT := tmT_a1 228 (by decide +kernel) rfl
theorem LX1_3 : Cond.methodLink RX1 3 Lib.objectInit ∈ tmT := tmT_a1 231 (by decide +kernel) rfl
theorem LX1_15 : Cond.methodLink RX1 15 yJ9_max_7cf53 ∈ tmT := tmT_a1 232 (by decide +kernel) rfl
theorem NX11_52 : Cond.classLink RX11 52 RX3 ∈ tmT := tmT_a2 25 (by decide +kernel) rfl
theorem IX3 : Cond.instantiable RX3 8 ∈ tmT := tmT_a2 26 (by decide +kernel) rfl
theorem LX11_54 : Cond.methodLink RX11 54 yX3_init ∈ tmT := tmT_a2 27 (by decide +kernel) rfl
theorem LX3_3 : Cond.methodLink RX3 3 Lib.objectInit ∈ tmT := tmT_a2 30 (by decide +kernel) rfl
theorem NX3_9 : Cond.classLink RX3 9 RX1 ∈ tmT := tmT_a2 31 (by decide +kernel) rfl
theorem LX3_13 : Cond.methodLink RX3 13 yX1_init ∈ tmT := tmT_a2 32 (by decide +kernel) rfl
theorem NX11_61 : Cond.classLink RX11 61 RX9 ∈ tmT := tmT_a2 59 (by decide +kernel) rfl
theorem IX9 : Cond.instantiable RX9 9 ∈ tmT := tmT_a2 60 (by decide +kernel) rfl
theorem LX11_63 : Cond.methodLink RX11 63 yX9_init ∈ tmT := tmT_a2 61 (by decide +kernel) rfl
theorem LX9_3 : Cond.methodLink RX9 3 Lib.objectInit ∈ tmT := tmT_a2 64 (by decide +kernel) rfl
theorem NX9_19 : Cond.classLink RX9 19 RX2 ∈ tmT := tmT_a2 65 (by decide +kernel) rfl
theorem LX9_21 : Cond.methodLink RX9 21 yX2_init ∈ tmT := tmT_a2 66 (by decide +kernel) rfl
theorem NX11_70 : Cond.classLink RX11 70 RX10 ∈ tmT := tmT_a2 97 (by decide +kernel) rfl
theorem IX10 : Cond.instantiable RX10 4 ∈ tmT := tmT_a2 98 (by decide +kernel) rfl
theorem LX10_3 : Cond.methodLink RX10 3 Lib.objectInit ∈ tmT := tmT_a2 102 (by decide +kernel) rfl
theorem LL_13 : Cond.methodLink RL 13 yX11_term ∈ tmT := tmT_a2 151 (by decide +kernel) rfl
theorem LX11_88 : Cond.methodLink RX11 88 yX11_refuse ∈ tmT := tmT_a2 155 (by decide +kernel) rfl
theorem LX11_92 : Cond.methodLink RX11 92 yX8_has ∈ tmT := tmT_a2 159 (by decide +kernel) rfl
theorem LX11_98 : Cond.methodLink RX11 98 yX8_lookUp ∈ tmT := tmT_a2 163 (by decide +kernel) rfl
theorem LX11_105 : Cond.methodLink RX11 105 yX7_keep ∈ tmT := tmT_a2 167 (by decide +kernel) rfl
theorem LX7_35 : Cond.methodLink RX7 35 yX7_prepare ∈ tmT := tmT_a2 171 (by decide +kernel) rfl
theorem LX7_25 : Cond.methodLink RX7 25 yX6_copyFrom ∈ tmT := tmT_a2 175 (by decide +kernel) rfl
theorem LX6_35 : Cond.methodLink RX6 35 yX8_copyFrom ∈ tmT := tmT_a2 179 (by decide +kernel) rfl
theorem LX8_31 : Cond.methodLink RX8 31 arraycopyName ∈ tmT := tmT_a2 183 (by decide +kernel) rfl
theorem LX7_38 : Cond.methodLink RX7 38 yX7_keepPrepared ∈ tmT := tmT_a2 186 (by decide +kernel) rfl
theorem LX7_29 : Cond.methodLink RX7 29 yJ9_min_7cf53 ∈ tmT := tmT_a2 190 (by decide +kernel) rfl
theorem LX11_109 : Cond.methodLink RX11 109 yX8_add ∈ tmT := tmT_a2 193 (by decide +kernel) rfl
theorem LX11_116 : Cond.methodLink RX11 116 yX11_settleAll ∈ tmT := tmT_a2 197 (by decide +kernel) rfl
theorem LX11_256 : Cond.methodLink RX11 256 yX5_settle ∈ tmT := tmT_a2 201 (by decide +kernel) rfl
theorem LX5_45 : Cond.methodLink RX5 45 yX5_sweep ∈ tmT := tmT_a2 205 (by decide +kernel) rfl
theorem LX5_49 : Cond.methodLink RX5 49 yX5_emptyPlaces ∈ tmT := tmT_a2 209 (by decide +kernel) rfl
theorem LX5_63 : Cond.methodLink RX5 63 yX8_homeOf ∈ tmT := tmT_a2 213 (by decide +kernel) rfl
theorem LX8_37 : Cond.methodLink RX8 37 yX8_has ∈ tmT := tmT_a2 217 (by decide +kernel) rfl
theorem LX5_70 : Cond.methodLink RX5 70 yX5_keyOf ∈ tmT := tmT_a2 218 (by decide +kernel) rfl
theorem LX5_77 : Cond.methodLink RX5 77 yX5_tellPlace ∈ tmT := tmT_a2 221 (by decide +kernel) rfl
theorem LX5_81 : Cond.methodLink RX5 81 yX8_unite ∈ tmT := tmT_a2 225 (by decide +kernel) rfl
theorem LX8_41 : Cond.methodLink RX8 41 yX8_homeOf ∈ tmT := tmT_a2 229 (by decide +kernel) rfl
theorem LX8_45 : Cond.methodLink RX8 45 yJ9_min_7cf53 ∈ tmT := tmT_a2 230 (by decide +kernel) rfl
theorem LX8_51 : Cond.methodLink RX8 51 yJ9_max_7cf53 ∈ tmT := tmT_a2 231 (by decide +kernel) rfl
theorem LX11_200 : Cond.methodLink RX11 200 yX4_forget ∈ tmT := tmT_a2 232 (by decide +kernel) rfl
theorem LL_18 : Cond.methodLink RL 18 yX11_alike ∈ tmT := tmT_a2 236 (by decide +kernel) rfl
theorem LX11_119 : Cond.methodLink RX11 119 yX11_classes ∈ tmT := tmT_a3 0 (by decide +kernel) rfl
theorem LX11_142 : Cond.methodLink RX11 142 yX8_countClasses ∈ tmT := tmT_a3 4 (by decide +kernel) rfl
theorem LX11_123 : Cond.methodLink RX11 123 yX8_unite ∈ tmT := tmT_a3 8 (by decide +kernel) rfl
theorem LL_23 : Cond.methodLink RL 23 yX11_anew ∈ tmT := tmT_a3 9 (by decide +kernel) rfl
theorem LX11_127 : Cond.methodLink RX11 127 yX6_empty ∈ tmT := tmT_a3 13 (by decide +kernel) rfl
theorem LL_28 : Cond.methodLink RL 28 yX11_of ∈ tmT := tmT_a3 17 (by decide +kernel) rfl
theorem LL_32 : Cond.methodLink RL 32 yX11_same ∈ tmT := tmT_a3 21 (by decide +kernel) rfl
theorem LL_36 : Cond.methodLink RL 36 yX11_classes ∈ tmT := tmT_a3 25 (by decide +kernel) rfl
theorem LL_40 : Cond.methodLink RL 40 yX11_about ∈ tmT := tmT_a3 26 (by decide +kernel) rfl
theorem LX11_145 : Cond.methodLink RX11 145 yX8_countIn ∈ tmT := tmT_a3 30 (by decide +kernel) rfl
theorem LX11_148 : Cond.methodLink RX11 148 yX8_leastGeneration ∈ tmT := tmT_a3 34 (by decide +kernel) rfl
theorem LX11_151 : Cond.methodLink RX11 151 yX5_fewestSigns ∈ tmT := tmT_a3 38 (by decide +kernel) rfl
theorem QX5_88 : Cond.constant RX5 88 (1000000) ∈ tmT := tmT_a3 42 (by decide +kernel) rfl
theorem LX5_89 : Cond.methodLink RX5 89 yX5_fewestOf ∈ tmT := tmT_a3 43 (by decide +kernel) rfl
theorem LX11_155 : Cond.methodLink RX11 155 yX8_countUsers ∈ tmT := tmT_a3 47 (by decide +kernel) rfl
theorem LL_44 : Cond.methodLink RL 44 yX11_rule ∈ tmT := tmT_a3 51 (by decide +kernel) rfl
theorem LX11_158 : Cond.methodLink RX11 158 yX6_hasRule ∈ tmT := tmT_a3 55 (by decide +kernel) rfl
theorem LX11_161 : Cond.methodLink RX11 161 yX6_ruleAt ∈ tmT := tmT_a3 59 (by decide +kernel) rfl
theorem LX6_42 : Cond.methodLink RX6 42 yX6_hasRule ∈ tmT := tmT_a3 63 (by decide +kernel) rfl
theorem LX11_170 : Cond.methodLink RX11 170 yX2_lettersIn ∈ tmT := tmT_a3 64 (by decide +kernel) rfl
theorem LX11_174 : Cond.methodLink RX11 174 yJ6_bitCount_0f7a4 ∈ tmT := tmT_a3 68 (by decide +kernel) rfl
theorem QJ6_265 : Cond.constant RJ6 265 (1431655765) ∈ tmT := tmT_a3 71 (by decide +kernel) rfl
theorem QJ6_266 : Cond.constant RJ6 266 (858993459) ∈ tmT := tmT_a3 72 (by decide +kernel) rfl
theorem QJ6_267 : Cond.constant RJ6 267 (252645135) ∈ tmT := tmT_a3 73 (by decide +kernel) rfl
theorem LX11_179 : Cond.methodLink RX11 179 yX2_signsIn ∈ tmT := tmT_a3 74 (by decide +kernel) rfl
theorem LX11_183 : Cond.methodLink RX11 183 yX4_look ∈ tmT := tmT_a3 78 (by decide +kernel) rfl
theorem LX4_45 : Cond.methodLink RX4 45 yX4_markGenerations ∈ tmT := tmT_a3 82 (by decide +kernel) rfl
theorem LX4_81 : Cond.methodLink RX4 81 yJ7_fill_53178 ∈ tmT := tmT_a3 86 (by decide +kernel) rfl
theorem LX4_96 : Cond.methodLink RX4 96 yJ9_min_7cf53 ∈ tmT := tmT_a3 87 (by decide +kernel) rfl
theorem LX4_54 : Cond.methodLink RX4 54 yX5_markParts ∈ tmT := tmT_a3 88 (by decide +kernel) rfl
theorem LX5_85 : Cond.methodLink RX5 85 yJ7_fill_d0a16 ∈ tmT := tmT_a3 92 (by decide +kernel) rfl
theorem LX4_60 : Cond.methodLink RX4 60 yX6_ruleAt ∈ tmT := tmT_a3 95 (by decide +kernel) rfl
theorem LX4_64 : Cond.methodLink RX4 64 yX4_stands ∈ tmT := tmT_a3 96 (by decide +kernel) rfl
theorem LX4_150 : Cond.methodLink RX4 150 yX4_chosenFor ∈ tmT := tmT_a3 100 (by decide +kernel) rfl
theorem LX4_144 : Cond.methodLink RX4 144 yX4_valueOf ∈ tmT := tmT_a3 104 (by decide +kernel) rfl
theorem LX4_153 : Cond.methodLink RX4 153 yX5_keyOf ∈ tmT := tmT_a3 108 (by decide +kernel) rfl
theorem LX4_73 : Cond.methodLink RX4 73 yX2_lettersIn ∈ tmT := tmT_a3 109 (by decide +kernel) rfl
theorem LX4_77 : Cond.methodLink RX4 77 yX4_choose ∈ tmT := tmT_a3 110 (by decide +kernel) rfl
theorem LX4_101 : Cond.methodLink RX4 101 yX4_note ∈ tmT := tmT_a3 114 (by decide +kernel) rfl
theorem LX4_160 : Cond.methodLink RX4 160 yX4_leastOf ∈ tmT := tmT_a3 118 (by decide +kernel) rfl
theorem LX4_163 : Cond.methodLink RX4 163 yJ9_max_7cf53 ∈ tmT := tmT_a3 122 (by decide +kernel) rfl
theorem LX4_166 : Cond.methodLink RX4 166 yX1_add ∈ tmT := tmT_a3 123 (by decide +kernel) rfl
theorem LX1_25 : Cond.methodLink RX1 25 yX1_isFull ∈ tmT := tmT_a3 127 (by decide +kernel) rfl
theorem LX4_105 : Cond.methodLink RX4 105 yX4_fitting ∈ tmT := tmT_a3 131 (by decide +kernel) rfl
theorem QX4_113 : Cond.constantLong RX4 113 (-1) ∈ tmT := tmT_a3 135 (by decide +kernel) rfl
theorem LX4_118 : Cond.methodLink RX4 118 yX2_isLetter ∈ tmT := tmT_a3 136 (by decide +kernel) rfl
theorem LX4_128 : Cond.methodLink RX4 128 yX4_knownValue ∈ tmT := tmT_a3 140 (by decide +kernel) rfl
theorem LX4_140 : Cond.methodLink RX4 140 yX2_stageOf ∈ tmT := tmT_a3 144 (by decide +kernel) rfl
theorem LX4_132 : Cond.methodLink RX4 132 yX5_firstsFor ∈ tmT := tmT_a3 148 (by decide +kernel) rfl
theorem LX4_136 : Cond.methodLink RX4 136 yX5_secondsFor ∈ tmT := tmT_a3 152 (by decide +kernel) rfl
theorem LX4_109 : Cond.methodLink RX4 109 yX1_isFull ∈ tmT := tmT_a3 156 (by decide +kernel) rfl
theorem LX11_190 : Cond.methodLink RX11 190 yX1_countInTime ∈ tmT := tmT_a3 157 (by decide +kernel) rfl
theorem LX1_34 : Cond.methodLink RX1 34 yX1_isLate ∈ tmT := tmT_a3 161 (by decide +kernel) rfl
theorem LX1_31 : Cond.methodLink RX1 31 yX1_tell ∈ tmT := tmT_a3 165 (by decide +kernel) rfl
theorem QX1_29 : Cond.constantLong RX1 29 (63) ∈ tmT := tmT_a3 169 (by decide +kernel) rfl
theorem LL_48 : Cond.methodLink RL 48 yX11_finding ∈ tmT := tmT_a3 170 (by decide +kernel) rfl
theorem LX11_193 : Cond.methodLink RX11 193 yX1_tell ∈ tmT := tmT_a3 174 (by decide +kernel) rfl
theorem LL_52 : Cond.methodLink RL 52 yX11_drop ∈ tmT := tmT_a3 175 (by decide +kernel) rfl
theorem LX11_196 : Cond.methodLink RX11 196 yX6_removeRule ∈ tmT := tmT_a3 179 (by decide +kernel) rfl
theorem LL_57 : Cond.methodLink RL 57 yX11_sets ∈ tmT := tmT_a3 183 (by decide +kernel) rfl
theorem LL_61 : Cond.methodLink RL 61 yX11_round ∈ tmT := tmT_a3 187 (by decide +kernel) rfl
theorem LX11_206 : Cond.methodLink RX11 206 yX3_run ∈ tmT := tmT_a3 191 (by decide +kernel) rfl
theorem LX3_46 : Cond.methodLink RX3 46 yJ7_fill_53178 ∈ tmT := tmT_a3 195 (by decide +kernel) rfl
theorem LX3_52 : Cond.methodLink RX3 52 yX3_collect ∈ tmT := tmT_a3 196 (by decide +kernel) rfl
theorem LX3_76 : Cond.methodLink RX3 76 yX4_look ∈ tmT := tmT_a3 200 (by decide +kernel) rfl
theorem LX3_80 : Cond.methodLink RX3 80 yX1_isLate ∈ tmT := tmT_a3 201 (by decide +kernel) rfl
theorem LX3_84 : Cond.methodLink RX3 84 yX1_addFrom ∈ tmT := tmT_a3 202 (by decide +kernel) rfl
theorem LX3_55 : Cond.methodLink RX3 55 yX3_arrange ∈ tmT := tmT_a3 206 (by decide +kernel) rfl
theorem LX3_88 : Cond.methodLink RX3 88 yX3_keyOf ∈ tmT := tmT_a3 210 (by decide +kernel) rfl
theorem LX3_92 : Cond.methodLink RX3 92 yX1_tell ∈ tmT := tmT_a3 214 (by decide +kernel) rfl
theorem LX3_95 : Cond.methodLink RX3 95 yJ9_min_7cf53 ∈ tmT := tmT_a3 215 (by decide +kernel) rfl
theorem LX3_100 : Cond.methodLink RX3 100 yJ9_max_7cf53 ∈ tmT := tmT_a3 216 (by decide +kernel) rfl
theorem LX3_62 : Cond.methodLink RX3 62 yX3_doOne ∈ tmT := tmT_a3 217 (by decide +kernel) rfl
theorem LX3_110 : Cond.methodLink RX3 110 yX8_countClasses ∈ tmT := tmT_a3 221 (by decide +kernel) rfl
theorem LX3_114 : Cond.methodLink RX3 114 yX3_buildRight ∈ tmT := tmT_a3 222 (by decide +kernel) rfl
theorem LX3_132 : Cond.methodLink RX3 132 yX8_homeOf ∈ tmT := tmT_a3 226 (by decide +kernel) rfl
theorem LX3_135 : Cond.methodLink RX3 135 yX6_ruleAt ∈ tmT := tmT_a3 227 (by decide +kernel) rfl
theorem LX3_145 : Cond.methodLink RX3 145 yX0_build ∈ tmT := tmT_a3 228 (by decide +kernel) rfl
theorem LX0_31 : Cond.methodLink RX0 31 yX0_termOf ∈ tmT := tmT_a3 232 (by decide +kernel) rfl
theorem LX0_41 : Cond.methodLink RX0 41 yX0_madeOf ∈ tmT := tmT_a3 236 (by decide +kernel) rfl
theorem LX0_48 : Cond.methodLink RX0 48 yX8_lookUp ∈ tmT := tmT_a4 0 (by decide +kernel) rfl
theorem LX0_52 : Cond.methodLink RX0 52 yX8_add ∈ tmT := tmT_a4 1 (by decide +kernel) rfl
theorem LX3_118 : Cond.methodLink RX3 118 yX8_unite ∈ tmT := tmT_a4 2 (by decide +kernel) rfl
theorem LX3_121 : Cond.methodLink RX3 121 yX5_settle ∈ tmT := tmT_a4 3 (by decide +kernel) rfl
theorem LX3_66 : Cond.methodLink RX3 66 yX4_forget ∈ tmT := tmT_a4 4 (by decide +kernel) rfl
theorem LL_65 : Cond.methodLink RL 65 yX11_rounds ∈ tmT := tmT_a4 5 (by decide +kernel) rfl
theorem LL_69 : Cond.methodLink RL 69 yX11_last ∈ tmT := tmT_a4 9 (by decide +kernel) rfl
theorem LL_73 : Cond.methodLink RL 73 yX11_still ∈ tmT := tmT_a4 13 (by decide +kernel) rfl
theorem LX11_212 : Cond.methodLink RX11 212 yX3_wouldChange ∈ tmT := tmT_a4 17 (by decide +kernel) rfl
theorem LX3_149 : Cond.methodLink RX3 149 yX3_wouldChangeBy ∈ tmT := tmT_a4 21 (by decide +kernel) rfl
theorem LL_77 : Cond.methodLink RL 77 yX11_type ∈ tmT := tmT_a4 25 (by decide +kernel) rfl
theorem LL_81 : Cond.methodLink RL 81 yX11_clear ∈ tmT := tmT_a4 29 (by decide +kernel) rfl
theorem LL_85 : Cond.methodLink RL 85 yX11_reads ∈ tmT := tmT_a4 33 (by decide +kernel) rfl
theorem LX11_221 : Cond.methodLink RX11 221 yX7_prepare ∈ tmT := tmT_a4 37 (by decide +kernel) rfl
theorem LX11_224 : Cond.methodLink RX11 224 yX9_read ∈ tmT := tmT_a4 38 (by decide +kernel) rfl
theorem LX9_48 : Cond.methodLink RX9 48 yX9_peek ∈ tmT := tmT_a4 42 (by decide +kernel) rfl
theorem LX9_52 : Cond.methodLink RX9 52 yX9_sentence ∈ tmT := tmT_a4 46 (by decide +kernel) rfl
theorem LX9_56 : Cond.methodLink RX9 56 yX2_empty ∈ tmT := tmT_a4 50 (by decide +kernel) rfl
theorem LX9_59 : Cond.methodLink RX9 59 yX9_readSide ∈ tmT := tmT_a4 54 (by decide +kernel) rfl
theorem LX9_121 : Cond.methodLink RX9 121 yX9_signOf ∈ tmT := tmT_a4 58 (by decide +kernel) rfl
theorem LX9_136 : Cond.methodLink RX9 136 yJ0_charAt_5068e ∈ tmT := tmT_a4 62 (by decide +kernel) rfl
theorem LJ0_492 : Cond.methodLink RJ0 492 yJ0_isLatin1_aae02 ∈ tmT := tmT_a4 66 (by decide +kernel) rfl
theorem LJ0_495 : Cond.methodLink RJ0 495 yJ1_charAt_3b067 ∈ tmT := tmT_a4 72 (by decide +kernel) rfl
theorem LJ1_9 : Cond.methodLink RJ1 9 yJ0_checkIndex_df160 ∈ tmT := tmT_a4 75 (by decide +kernel) rfl
theorem LJ0_1059 : Cond.methodLink RJ0 1059 yJ3_checkIndex_8e157 ∈ tmT := tmT_a4 80 (by decide +kernel) rfl
theorem LJ0_498 : Cond.methodLink RJ0 498 yJ2_charAt_3b067 ∈ tmT := tmT_a4 83 (by decide +kernel) rfl
theorem LJ2_67 : Cond.methodLink RJ2 67 yJ2_checkIndex_2214a ∈ tmT := tmT_a4 86 (by decide +kernel) rfl
theorem LJ2_48 : Cond.methodLink RJ2 48 yJ2_length_9d52b ∈ tmT := tmT_a4 89 (by decide +kernel) rfl
theorem LJ2_414 : Cond.methodLink RJ2 414 yJ0_checkIndex_df160 ∈ tmT := tmT_a4 92 (by decide +kernel) rfl
theorem LJ2_71 : Cond.methodLink RJ2 71 yJ2_getChar_3b067 ∈ tmT := tmT_a4 93 (by decide +kernel) rfl
theorem LX9_76 : Cond.methodLink RX9 76 yX9_take ∈ tmT := tmT_a4 102 (by decide +kernel) rfl
theorem LX9_124 : Cond.methodLink RX9 124 yX9_open ∈ tmT := tmT_a4 106 (by decide +kernel) rfl
theorem LX9_127 : Cond.methodLink RX9 127 yX2_add ∈ tmT := tmT_a4 110 (by decide +kernel) rfl
theorem LX2_37 : Cond.methodLink RX2 37 yX2_stageOf ∈ tmT := tmT_a4 114 (by decide +kernel) rfl
theorem LX9_131 : Cond.methodLink RX9 131 yX9_closeBehind ∈ tmT := tmT_a4 115 (by decide +kernel) rfl
theorem LX9_69 : Cond.methodLink RX9 69 yX2_lettersIn ∈ tmT := tmT_a4 119 (by decide +kernel) rfl
theorem LX9_73 : Cond.methodLink RX9 73 yX9_ruleSentence ∈ tmT := tmT_a4 120 (by decide +kernel) rfl
theorem LX9_87 : Cond.methodLink RX9 87 yX2_copied ∈ tmT := tmT_a4 124 (by decide +kernel) rfl
theorem NX2_10 : Cond.classLink RX2 10 RX2 ∈ tmT := tmT_a4 128 (by decide +kernel) rfl
theorem LX2_41 : Cond.methodLink RX2 41 yX2_init ∈ tmT := tmT_a4 129 (by decide +kernel) rfl
theorem LX2_44 : Cond.methodLink RX2 44 arraycopyName ∈ tmT := tmT_a4 130 (by decide +kernel) rfl
theorem LX9_91 : Cond.methodLink RX9 91 yX6_addRule ∈ tmT := tmT_a4 131 (by decide +kernel) rfl
theorem LX9_79 : Cond.methodLink RX9 79 yX9_termSentence ∈ tmT := tmT_a4 135 (by decide +kernel) rfl
theorem LX9_95 : Cond.methodLink RX9 95 yX0_build ∈ tmT := tmT_a4 139 (by decide +kernel) rfl
theorem LX9_105 : Cond.methodLink RX9 105 yX0_madeOf ∈ tmT := tmT_a4 140 (by decide +kernel) rfl
theorem LX9_109 : Cond.methodLink RX9 109 yX8_has ∈ tmT := tmT_a4 141 (by decide +kernel) rfl
theorem LX9_117 : Cond.methodLink RX9 117 yX8_unite ∈ tmT := tmT_a4 142 (by decide +kernel) rfl
theorem LX11_227 : Cond.methodLink RX11 227 yX7_keepPrepared ∈ tmT := tmT_a4 143 (by decide +kernel) rfl
theorem LX11_230 : Cond.methodLink RX11 230 yX7_undo ∈ tmT := tmT_a4 144 (by decide +kernel) rfl
theorem LL_89 : Cond.methodLink RL 89 yX11_writing ∈ tmT := tmT_a4 149 (by decide +kernel) rfl
theorem LX11_233 : Cond.methodLink RX11 233 yX10_write ∈ tmT := tmT_a4 153 (by decide +kernel) rfl
theorem LX10_25 : Cond.methodLink RX10 25 yX10_push ∈ tmT := tmT_a4 157 (by decide +kernel) rfl
theorem LX10_29 : Cond.methodLink RX10 29 yX8_has ∈ tmT := tmT_a4 161 (by decide +kernel) rfl
theorem LX10_35 : Cond.methodLink RX10 35 yX10_writeTerm ∈ tmT := tmT_a4 162 (by decide +kernel) rfl
theorem LX10_44 : Cond.methodLink RX10 44 yJ0_charAt_5068e ∈ tmT := tmT_a4 167 (by decide +kernel) rfl
theorem LL_93 : Cond.methodLink RL 93 yX11_back ∈ tmT := tmT_a4 168 (by decide +kernel) rfl
theorem LX11_240 : Cond.methodLink RX11 240 yX7_goBack ∈ tmT := tmT_a4 172 (by decide +kernel) rfl
theorem LL_97 : Cond.methodLink RL 97 yX11_told ∈ tmT := tmT_a4 176 (by decide +kernel) rfl
theorem LL_101 : Cond.methodLink RL 101 yX11_digest ∈ tmT := tmT_a4 180 (by decide +kernel) rfl
theorem QX11_243 : Cond.constantLong RX11 243 (2039) ∈ tmT := tmT_a4 184 (by decide +kernel) rfl
theorem QX11_245 : Cond.constantLong RX11 245 (31) ∈ tmT := tmT_a4 185 (by decide +kernel) rfl
theorem LX11_247 : Cond.methodLink RX11 247 yX11_told ∈ tmT := tmT_a4 186 (by decide +kernel) rfl
theorem LX11_250 : Cond.methodLink RX11 250 yX11_of ∈ tmT := tmT_a4 187 (by decide +kernel) rfl
theorem LX11_253 : Cond.methodLink RX11 253 yX11_rule ∈ tmT := tmT_a4 188 (by decide +kernel) rfl
theorem NL_10 : Cond.classLink RL 10 RX12 ∈ tmT := tmT_a4 189 (by decide +kernel) rfl
theorem IX12 : Cond.instantiable RX12 33 ∈ tmT := tmT_a4 190 (by decide +kernel) rfl
theorem LL_12 : Cond.methodLink RL 12 yX12_init ∈ tmT := tmT_a4 191 (by decide +kernel) rfl
theorem LX12_1 : Cond.methodLink RX12 1 Lib.objectInit ∈ tmT := tmT_a4 194 (by decide +kernel) rfl
theorem LL_17 : Cond.methodLink RL 17 yX12_term ∈ tmT := tmT_a5 55 (by decide +kernel) rfl
theorem LX12_79 : Cond.methodLink RX12 79 yX12_in ∈ tmT := tmT_a5 59 (by decide +kernel) rfl
theorem LX12_106 : Cond.methodLink RX12 106 yX12_arity ∈ tmT := tmT_a5 62 (by decide +kernel) rfl
theorem LX12_109 : Cond.methodLink RX12 109 yX12_isTerm ∈ tmT := tmT_a5 65 (by decide +kernel) rfl
theorem LX12_113 : Cond.methodLink RX12 113 yX12_refuses ∈ tmT := tmT_a5 69 (by decide +kernel) rfl
theorem LX12_87 : Cond.methodLink RX12 87 yX12_termOf ∈ tmT := tmT_a5 73 (by decide +kernel) rfl
theorem LX12_116 : Cond.methodLink RX12 116 yX12_keeps ∈ tmT := tmT_a5 77 (by decide +kernel) rfl
theorem LX12_119 : Cond.methodLink RX12 119 yX12_comes ∈ tmT := tmT_a5 81 (by decide +kernel) rfl
theorem LX12_123 : Cond.methodLink RX12 123 yX12_closes ∈ tmT := tmT_a5 85 (by decide +kernel) rfl
theorem LX12_95 : Cond.methodLink RX12 95 yX12_classOf ∈ tmT := tmT_a5 89 (by decide +kernel) rfl
theorem LX12_99 : Cond.methodLink RX12 99 yX12_isPart ∈ tmT := tmT_a5 93 (by decide +kernel) rfl
theorem LX12_103 : Cond.methodLink RX12 103 yX12_joins ∈ tmT := tmT_a5 97 (by decide +kernel) rfl
theorem LL_22 : Cond.methodLink RL 22 yX12_alike ∈ tmT := tmT_a5 101 (by decide +kernel) rfl
theorem LX12_126 : Cond.methodLink RX12 126 yX12_classesOf ∈ tmT := tmT_a5 105 (by decide +kernel) rfl
theorem LL_27 : Cond.methodLink RL 27 yX12_anew ∈ tmT := tmT_a5 109 (by decide +kernel) rfl
theorem LL_31 : Cond.methodLink RL 31 yX12_of ∈ tmT := tmT_a5 113 (by decide +kernel) rfl
theorem LL_35 : Cond.methodLink RL 35 yX12_same ∈ tmT := tmT_a5 117 (by decide +kernel) rfl
theorem LL_39 : Cond.methodLink RL 39 yX12_classes ∈ tmT := tmT_a5 121 (by decide +kernel) rfl
theorem LL_43 : Cond.methodLink RL 43 yX12_about ∈ tmT := tmT_a5 125 (by decide +kernel) rfl
theorem LX12_130 : Cond.methodLink RX12 130 yX12_costOf ∈ tmT := tmT_a5 129 (by decide +kernel) rfl
theorem QX12_129 : Cond.constant RX12 129 (1000000) ∈ tmT := tmT_a5 133 (by decide +kernel) rfl
theorem LL_47 : Cond.methodLink RL 47 yX12_rule ∈ tmT := tmT_a5 134 (by decide +kernel) rfl
theorem LX12_154 : Cond.methodLink RX12 154 yX12_isRule ∈ tmT := tmT_a5 138 (by decide +kernel) rfl
theorem LX12_144 : Cond.methodLink RX12 144 yX12_lettersOf ∈ tmT := tmT_a5 142 (by decide +kernel) rfl
theorem LX12_133 : Cond.methodLink RX12 133 yX12_sizeOf ∈ tmT := tmT_a5 146 (by decide +kernel) rfl
theorem LX12_137 : Cond.methodLink RX12 137 yX12_signAt ∈ tmT := tmT_a5 150 (by decide +kernel) rfl
theorem LX12_157 : Cond.methodLink RX12 157 yX12_signsOf ∈ tmT := tmT_a5 154 (by decide +kernel) rfl
theorem LX12_160 : Cond.methodLink RX12 160 yX12_table ∈ tmT := tmT_a5 158 (by decide +kernel) rfl
theorem LX12_163 : Cond.methodLink RX12 163 yX12_finds ∈ tmT := tmT_a5 162 (by decide +kernel) rfl
theorem LX12_147 : Cond.methodLink RX12 147 yX12_isStand ∈ tmT := tmT_a5 166 (by decide +kernel) rfl
theorem LX12_150 : Cond.methodLink RX12 150 yX12_meets ∈ tmT := tmT_a5 170 (by decide +kernel) rfl
theorem LX12_141 : Cond.methodLink RX12 141 yX12_placeOf ∈ tmT := tmT_a5 174 (by decide +kernel) rfl
theorem LL_51 : Cond.methodLink RL 51 yX12_finding ∈ tmT := tmT_a5 178 (by decide +kernel) rfl
theorem LL_56 : Cond.methodLink RL 56 yX12_drop ∈ tmT := tmT_a5 182 (by decide +kernel) rfl
theorem LL_60 : Cond.methodLink RL 60 yX12_sets ∈ tmT := tmT_a5 186 (by decide +kernel) rfl
theorem LL_64 : Cond.methodLink RL 64 yX12_round ∈ tmT := tmT_a5 190 (by decide +kernel) rfl
theorem LX12_188 : Cond.methodLink RX12 188 yX12_goesRound ∈ tmT := tmT_a5 194 (by decide +kernel) rfl
theorem LX12_185 : Cond.methodLink RX12 185 yX12_doesAll ∈ tmT := tmT_a5 198 (by decide +kernel) rfl
theorem LX12_182 : Cond.methodLink RX12 182 yX12_does ∈ tmT := tmT_a5 202 (by decide +kernel) rfl
theorem LX12_178 : Cond.methodLink RX12 178 yX12_builds ∈ tmT := tmT_a5 206 (by decide +kernel) rfl
theorem LX12_169 : Cond.methodLink RX12 169 yX12_made ∈ tmT := tmT_a5 210 (by decide +kernel) rfl
theorem LX12_175 : Cond.methodLink RX12 175 yX12_waiting ∈ tmT := tmT_a5 214 (by decide +kernel) rfl
theorem LL_68 : Cond.methodLink RL 68 yX12_rounds ∈ tmT := tmT_a5 218 (by decide +kernel) rfl
theorem LL_72 : Cond.methodLink RL 72 yX12_last ∈ tmT := tmT_a5 222 (by decide +kernel) rfl
theorem LL_76 : Cond.methodLink RL 76 yX12_still ∈ tmT := tmT_a5 226 (by decide +kernel) rfl
theorem LL_80 : Cond.methodLink RL 80 yX12_type ∈ tmT := tmT_a5 230 (by decide +kernel) rfl
theorem LL_84 : Cond.methodLink RL 84 yX12_clear ∈ tmT := tmT_a5 234 (by decide +kernel) rfl
theorem LL_88 : Cond.methodLink RL 88 yX12_reads ∈ tmT := tmT_a5 238 (by decide +kernel) rfl
theorem LX12_201 : Cond.methodLink RX12 201 yX12_skips ∈ tmT := tmT_a6 2 (by decide +kernel) rfl
theorem LX12_198 : Cond.methodLink RX12 198 yX12_byteAt ∈ tmT := tmT_a6 6 (by decide +kernel) rfl
theorem LX12_229 : Cond.methodLink RX12 229 yX12_sentence ∈ tmT := tmT_a6 10 (by decide +kernel) rfl
theorem LX12_222 : Cond.methodLink RX12 222 yX12_side ∈ tmT := tmT_a6 14 (by decide +kernel) rfl
theorem LX12_210 : Cond.methodLink RX12 210 yX12_signBy ∈ tmT := tmT_a6 18 (by decide +kernel) rfl
theorem LX12_213 : Cond.methodLink RX12 213 yX12_is ∈ tmT := tmT_a6 21 (by decide +kernel) rfl
theorem LX12_226 : Cond.methodLink RX12 226 yX12_rules ∈ tmT := tmT_a6 25 (by decide +kernel) rfl
theorem LL_92 : Cond.methodLink RL 92 yX12_writing ∈ tmT := tmT_a6 29 (by decide +kernel) rfl
theorem LX12_233 : Cond.methodLink RX12 233 yX12_letterOf ∈ tmT := tmT_a6 33 (by decide +kernel) rfl
theorem LL_96 : Cond.methodLink RL 96 yX12_back ∈ tmT := tmT_a6 36 (by decide +kernel) rfl
theorem LL_100 : Cond.methodLink RL 100 yX12_told ∈ tmT := tmT_a6 40 (by decide +kernel) rfl
theorem LX12_236 : Cond.methodLink RX12 236 yX12_toldOf ∈ tmT := tmT_a6 44 (by decide +kernel) rfl
theorem LL_105 : Cond.methodLink RL 105 yX12_digest ∈ tmT := tmT_a6 48 (by decide +kernel) rfl
theorem QX12_239 : Cond.constantLong RX12 239 (2039) ∈ tmT := tmT_a6 52 (by decide +kernel) rfl
theorem QX12_241 : Cond.constantLong RX12 241 (31) ∈ tmT := tmT_a6 53 (by decide +kernel) rfl
theorem Oinst : Cond.instanceMethod Lib.objectInit ∈ tmT := tmT_a1 28 (by decide +kernel) rfl
theorem Ocode : Cond.code Lib.objectInit ⟨#[0xb1]⟩ 1 none ∈ tmT := tmT_a1 29 (by decide +kernel) rfl
theorem Aint : Cond.arrayClass (newarray.typeOf .int) ∈ tmT := tmT_a1 82 (by decide +kernel) rfl
theorem Along : Cond.arrayClass (newarray.typeOf .long) ∈ tmT := tmT_a1 202 (by decide +kernel) rfl
theorem Cnat : Cond.native arraycopyName ∈ tmT := tmT_a2 185 (by decide +kernel) rfl
theorem Csta : Cond.static arraycopyName ∈ tmT := tmT_a2 184 (by decide +kernel) rfl
theorem Cini : Cond.initialized "java/lang/System" ∈ tmT := tmT_a1 16 (by decide +kernel) rfl
end
