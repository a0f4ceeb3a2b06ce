section
-- ===== PART A: goes FIRST, ahead of the names: the tables' words, and 'selects' of the private methods out of them =====
/-- a private method of a class that the tables say can be made, by its rows of tables_1 -/
def lw_okq (q : MethodName × Nat) : Prop := (q.1.cls ≠ "java/lang/invoke/MethodHandle" ∧ q.1.cls ≠ "java/lang/invoke/VarHandle") ∧ Cond.instantiable q.1.cls q.2 ∈ tables_1 ∧ Cond.privateMethod q.1 ∈ tables_1 ∧ Cond.instanceMethod q.1 ∈ tables_1
theorem lw_p0 : lw_okq (⟨"TownClocks", "pipeAt", "(I)LTownClocks$Pipe;"⟩, 8) := ⟨⟨by decide +kernel, by decide +kernel⟩, List.mem_of_getElem? (i := 23) (by decide +kernel), List.mem_of_getElem? (i := 208) (by decide +kernel), List.mem_of_getElem? (i := 209) (by decide +kernel)⟩
theorem lw_p1 : lw_okq (⟨"java/util/ArrayList", "add", "(Ljava/lang/Object;[Ljava/lang/Object;I)V"⟩, 3) := ⟨⟨by decide +kernel, by decide +kernel⟩, List.mem_of_getElem? (i := 31) (by decide +kernel), List.mem_of_getElem? (i := 268) (by decide +kernel), List.mem_of_getElem? (i := 269) (by decide +kernel)⟩
theorem lw_p2 : lw_okq (⟨"java/util/ArrayList", "grow", "()[Ljava/lang/Object;"⟩, 3) := ⟨⟨by decide +kernel, by decide +kernel⟩, List.mem_of_getElem? (i := 31) (by decide +kernel), List.mem_of_getElem? (i := 272) (by decide +kernel), List.mem_of_getElem? (i := 273) (by decide +kernel)⟩
theorem lw_p3 : lw_okq (⟨"java/util/ArrayList", "grow", "(I)[Ljava/lang/Object;"⟩, 3) := ⟨⟨by decide +kernel, by decide +kernel⟩, List.mem_of_getElem? (i := 31) (by decide +kernel), List.mem_of_getElem? (i := 276) (by decide +kernel), List.mem_of_getElem? (i := 277) (by decide +kernel)⟩
theorem lw_p4 : lw_okq (⟨"TownClocks$Dial", "isPaidFor", "(Z)Z"⟩, 12) := ⟨⟨by decide +kernel, by decide +kernel⟩, List.mem_of_getElem? (i := 342) (by decide +kernel), List.mem_of_getElem? (i := 411) (by decide +kernel), List.mem_of_getElem? (i := 412) (by decide +kernel)⟩
theorem lw_p5 : lw_okq (⟨"TownClocks", "dialAt", "(I)LTownClocks$Dial;"⟩, 8) := ⟨⟨by decide +kernel, by decide +kernel⟩, List.mem_of_getElem? (i := 23) (by decide +kernel), List.mem_of_getElem? (i := 438) (by decide +kernel), List.mem_of_getElem? (i := 439) (by decide +kernel)⟩
theorem lw_p6 : lw_okq (⟨"TownClocks", "mostWrongDial", "()LTownClocks$Dial;"⟩, 8) := ⟨⟨by decide +kernel, by decide +kernel⟩, List.mem_of_getElem? (i := 23) (by decide +kernel), List.mem_of_getElem? (i := 471) (by decide +kernel), List.mem_of_getElem? (i := 472) (by decide +kernel)⟩
theorem lw_p7 : lw_okq (⟨"TownClocks$Tape", "endOfLetters", "()I"⟩, 5) := ⟨⟨by decide +kernel, by decide +kernel⟩, List.mem_of_getElem? (i := 107) (by decide +kernel), List.mem_of_getElem? (i := 558) (by decide +kernel), List.mem_of_getElem? (i := 559) (by decide +kernel)⟩
theorem lw_p8 : lw_okq (⟨"TownClocks$Tape", "endOfFigures", "()I"⟩, 5) := ⟨⟨by decide +kernel, by decide +kernel⟩, List.mem_of_getElem? (i := 107) (by decide +kernel), List.mem_of_getElem? (i := 565) (by decide +kernel), List.mem_of_getElem? (i := 566) (by decide +kernel)⟩
theorem lw_p9 : lw_okq (⟨"TownClocks$Reading", "readContract", "(I)Z"⟩, 7) := ⟨⟨by decide +kernel, by decide +kernel⟩, List.mem_of_getElem? (i := 133) (by decide +kernel), List.mem_of_getElem? (i := 569) (by decide +kernel), List.mem_of_getElem? (i := 570) (by decide +kernel)⟩
theorem lw_p10 : lw_okq (⟨"TownClocks$Reading", "refuse", "(I)Z"⟩, 7) := ⟨⟨by decide +kernel, by decide +kernel⟩, List.mem_of_getElem? (i := 133) (by decide +kernel), List.mem_of_getElem? (i := 624) (by decide +kernel), List.mem_of_getElem? (i := 625) (by decide +kernel)⟩
theorem lw_p11 : lw_okq (⟨"TownClocks$Reading", "readNumber", "()Z"⟩, 7) := ⟨⟨by decide +kernel, by decide +kernel⟩, List.mem_of_getElem? (i := 133) (by decide +kernel), List.mem_of_getElem? (i := 628) (by decide +kernel), List.mem_of_getElem? (i := 629) (by decide +kernel)⟩
theorem lw_p12 : lw_okq (⟨"TownClocks$Reading", "namedTerms", "()I"⟩, 7) := ⟨⟨by decide +kernel, by decide +kernel⟩, List.mem_of_getElem? (i := 133) (by decide +kernel), List.mem_of_getElem? (i := 636) (by decide +kernel), List.mem_of_getElem? (i := 637) (by decide +kernel)⟩
theorem lw_p13 : lw_okq (⟨"TownClocks$Reading", "readSign", "(C)Z"⟩, 7) := ⟨⟨by decide +kernel, by decide +kernel⟩, List.mem_of_getElem? (i := 133) (by decide +kernel), List.mem_of_getElem? (i := 643) (by decide +kernel), List.mem_of_getElem? (i := 644) (by decide +kernel)⟩
theorem lw_p14 : lw_okq (⟨"TownClocks", "weightOf", "(LTownClocks$Dial;)I"⟩, 8) := ⟨⟨by decide +kernel, by decide +kernel⟩, List.mem_of_getElem? (i := 23) (by decide +kernel), List.mem_of_getElem? (i := 683) (by decide +kernel), List.mem_of_getElem? (i := 684) (by decide +kernel)⟩
theorem lw_p15 : lw_okq (⟨"TownClocks", "body11", "(LTownClocks$Dial;)I"⟩, 8) := ⟨⟨by decide +kernel, by decide +kernel⟩, List.mem_of_getElem? (i := 23) (by decide +kernel), List.mem_of_getElem? (i := 687) (by decide +kernel), List.mem_of_getElem? (i := 688) (by decide +kernel)⟩
def lw_privs_1 : List (MethodName × Nat) := [(⟨"TownClocks", "pipeAt", "(I)LTownClocks$Pipe;"⟩, 8), (⟨"java/util/ArrayList", "add", "(Ljava/lang/Object;[Ljava/lang/Object;I)V"⟩, 3), (⟨"java/util/ArrayList", "grow", "()[Ljava/lang/Object;"⟩, 3), (⟨"java/util/ArrayList", "grow", "(I)[Ljava/lang/Object;"⟩, 3), (⟨"TownClocks$Dial", "isPaidFor", "(Z)Z"⟩, 12), (⟨"TownClocks", "dialAt", "(I)LTownClocks$Dial;"⟩, 8), (⟨"TownClocks", "mostWrongDial", "()LTownClocks$Dial;"⟩, 8), (⟨"TownClocks$Tape", "endOfLetters", "()I"⟩, 5), (⟨"TownClocks$Tape", "endOfFigures", "()I"⟩, 5), (⟨"TownClocks$Reading", "readContract", "(I)Z"⟩, 7), (⟨"TownClocks$Reading", "refuse", "(I)Z"⟩, 7), (⟨"TownClocks$Reading", "readNumber", "()Z"⟩, 7), (⟨"TownClocks$Reading", "namedTerms", "()I"⟩, 7), (⟨"TownClocks$Reading", "readSign", "(C)Z"⟩, 7), (⟨"TownClocks", "weightOf", "(LTownClocks$Dial;)I"⟩, 8), (⟨"TownClocks", "body11", "(LTownClocks$Dial;)I"⟩, 8)]
theorem lw_r1 : ∀ q ∈ lw_privs_1, lw_okq q := List.forall_mem_cons.mpr ⟨lw_p0, List.forall_mem_cons.mpr ⟨lw_p1, List.forall_mem_cons.mpr ⟨lw_p2, List.forall_mem_cons.mpr ⟨lw_p3, List.forall_mem_cons.mpr ⟨lw_p4, List.forall_mem_cons.mpr ⟨lw_p5, List.forall_mem_cons.mpr ⟨lw_p6, List.forall_mem_cons.mpr ⟨lw_p7, List.forall_mem_cons.mpr ⟨lw_p8, List.forall_mem_cons.mpr ⟨lw_p9, List.forall_mem_cons.mpr ⟨lw_p10, List.forall_mem_cons.mpr ⟨lw_p11, List.forall_mem_cons.mpr ⟨lw_p12, List.forall_mem_cons.mpr ⟨lw_p13, List.forall_mem_cons.mpr ⟨lw_p14, List.forall_mem_cons.mpr ⟨lw_p15, fun _ h => absurd h List.not_mem_nil⟩⟩⟩⟩⟩⟩⟩⟩⟩⟩⟩⟩⟩⟩⟩⟩
theorem lw_p16 : lw_okq (⟨"TownClocks", "body10", "(LTownClocks$Dial;)I"⟩, 8) := ⟨⟨by decide +kernel, by decide +kernel⟩, List.mem_of_getElem? (i := 23) (by decide +kernel), List.mem_of_getElem? (i := 695) (by decide +kernel), List.mem_of_getElem? (i := 696) (by decide +kernel)⟩
theorem lw_p17 : lw_okq (⟨"TownClocks", "body12", "(LTownClocks$Dial;)I"⟩, 8) := ⟨⟨by decide +kernel, by decide +kernel⟩, List.mem_of_getElem? (i := 23) (by decide +kernel), List.mem_of_getElem? (i := 699) (by decide +kernel), List.mem_of_getElem? (i := 700) (by decide +kernel)⟩
theorem lw_p18 : lw_okq (⟨"TownClocks", "body13", "(LTownClocks$Dial;)I"⟩, 8) := ⟨⟨by decide +kernel, by decide +kernel⟩, List.mem_of_getElem? (i := 23) (by decide +kernel), List.mem_of_getElem? (i := 703) (by decide +kernel), List.mem_of_getElem? (i := 704) (by decide +kernel)⟩
theorem lw_p19 : lw_okq (⟨"TownClocks", "markOf", "(LTownClocks$Dial;)I"⟩, 8) := ⟨⟨by decide +kernel, by decide +kernel⟩, List.mem_of_getElem? (i := 23) (by decide +kernel), List.mem_of_getElem? (i := 707) (by decide +kernel), List.mem_of_getElem? (i := 708) (by decide +kernel)⟩
theorem lw_p20 : lw_okq (⟨"TownClocks", "body21", "(LTownClocks$Dial;)I"⟩, 8) := ⟨⟨by decide +kernel, by decide +kernel⟩, List.mem_of_getElem? (i := 23) (by decide +kernel), List.mem_of_getElem? (i := 711) (by decide +kernel), List.mem_of_getElem? (i := 712) (by decide +kernel)⟩
theorem lw_p21 : lw_okq (⟨"TownClocks", "body20", "(LTownClocks$Dial;)I"⟩, 8) := ⟨⟨by decide +kernel, by decide +kernel⟩, List.mem_of_getElem? (i := 23) (by decide +kernel), List.mem_of_getElem? (i := 715) (by decide +kernel), List.mem_of_getElem? (i := 716) (by decide +kernel)⟩
theorem lw_p22 : lw_okq (⟨"TownClocks", "body22", "(LTownClocks$Dial;)I"⟩, 8) := ⟨⟨by decide +kernel, by decide +kernel⟩, List.mem_of_getElem? (i := 23) (by decide +kernel), List.mem_of_getElem? (i := 719) (by decide +kernel), List.mem_of_getElem? (i := 720) (by decide +kernel)⟩
theorem lw_p23 : lw_okq (⟨"TownClocks", "countOfKind", "(I)I"⟩, 8) := ⟨⟨by decide +kernel, by decide +kernel⟩, List.mem_of_getElem? (i := 23) (by decide +kernel), List.mem_of_getElem? (i := 731) (by decide +kernel), List.mem_of_getElem? (i := 732) (by decide +kernel)⟩
theorem lw_p24 : lw_okq (⟨"TownClocks", "countContracts", "()I"⟩, 8) := ⟨⟨by decide +kernel, by decide +kernel⟩, List.mem_of_getElem? (i := 23) (by decide +kernel), List.mem_of_getElem? (i := 735) (by decide +kernel), List.mem_of_getElem? (i := 736) (by decide +kernel)⟩
theorem lw_p25 : lw_okq (⟨"TownClocks", "allLates", "()I"⟩, 8) := ⟨⟨by decide +kernel, by decide +kernel⟩, List.mem_of_getElem? (i := 23) (by decide +kernel), List.mem_of_getElem? (i := 739) (by decide +kernel), List.mem_of_getElem? (i := 740) (by decide +kernel)⟩
theorem lw_p26 : lw_okq (⟨"TownClocksModel", "isPipe", "(I)Z"⟩, 48) := ⟨⟨by decide +kernel, by decide +kernel⟩, List.mem_of_getElem? (i := 743) (by decide +kernel), List.mem_of_getElem? (i := 900) (by decide +kernel), List.mem_of_getElem? (i := 901) (by decide +kernel)⟩
theorem lw_p27 : lw_okq (⟨"TownClocksModel", "findAir", "()V"⟩, 48) := ⟨⟨by decide +kernel, by decide +kernel⟩, List.mem_of_getElem? (i := 743) (by decide +kernel), List.mem_of_getElem? (i := 921) (by decide +kernel), List.mem_of_getElem? (i := 922) (by decide +kernel)⟩
theorem lw_p28 : lw_okq (⟨"TownClocksModel", "lagOf", "(I)I"⟩, 48) := ⟨⟨by decide +kernel, by decide +kernel⟩, List.mem_of_getElem? (i := 743) (by decide +kernel), List.mem_of_getElem? (i := 925) (by decide +kernel), List.mem_of_getElem? (i := 926) (by decide +kernel)⟩
theorem lw_p29 : lw_okq (⟨"TownClocksModel", "isDial", "(I)Z"⟩, 48) := ⟨⟨by decide +kernel, by decide +kernel⟩, List.mem_of_getElem? (i := 743) (by decide +kernel), List.mem_of_getElem? (i := 959) (by decide +kernel), List.mem_of_getElem? (i := 960) (by decide +kernel)⟩
theorem lw_p30 : lw_okq (⟨"TownClocksModel", "makeRight", "(I)V"⟩, 48) := ⟨⟨by decide +kernel, by decide +kernel⟩, List.mem_of_getElem? (i := 743) (by decide +kernel), List.mem_of_getElem? (i := 976) (by decide +kernel), List.mem_of_getElem? (i := 977) (by decide +kernel)⟩
theorem lw_p31 : lw_okq (⟨"TownClocksModel", "kindOf", "(I)I"⟩, 48) := ⟨⟨by decide +kernel, by decide +kernel⟩, List.mem_of_getElem? (i := 743) (by decide +kernel), List.mem_of_getElem? (i := 992) (by decide +kernel), List.mem_of_getElem? (i := 993) (by decide +kernel)⟩
def lw_privs_2 : List (MethodName × Nat) := [(⟨"TownClocks", "body10", "(LTownClocks$Dial;)I"⟩, 8), (⟨"TownClocks", "body12", "(LTownClocks$Dial;)I"⟩, 8), (⟨"TownClocks", "body13", "(LTownClocks$Dial;)I"⟩, 8), (⟨"TownClocks", "markOf", "(LTownClocks$Dial;)I"⟩, 8), (⟨"TownClocks", "body21", "(LTownClocks$Dial;)I"⟩, 8), (⟨"TownClocks", "body20", "(LTownClocks$Dial;)I"⟩, 8), (⟨"TownClocks", "body22", "(LTownClocks$Dial;)I"⟩, 8), (⟨"TownClocks", "countOfKind", "(I)I"⟩, 8), (⟨"TownClocks", "countContracts", "()I"⟩, 8), (⟨"TownClocks", "allLates", "()I"⟩, 8), (⟨"TownClocksModel", "isPipe", "(I)Z"⟩, 48), (⟨"TownClocksModel", "findAir", "()V"⟩, 48), (⟨"TownClocksModel", "lagOf", "(I)I"⟩, 48), (⟨"TownClocksModel", "isDial", "(I)Z"⟩, 48), (⟨"TownClocksModel", "makeRight", "(I)V"⟩, 48), (⟨"TownClocksModel", "kindOf", "(I)I"⟩, 48)]
theorem lw_r2 : ∀ q ∈ lw_privs_2, lw_okq q := List.forall_mem_cons.mpr ⟨lw_p16, List.forall_mem_cons.mpr ⟨lw_p17, List.forall_mem_cons.mpr ⟨lw_p18, List.forall_mem_cons.mpr ⟨lw_p19, List.forall_mem_cons.mpr ⟨lw_p20, List.forall_mem_cons.mpr ⟨lw_p21, List.forall_mem_cons.mpr ⟨lw_p22, List.forall_mem_cons.mpr ⟨lw_p23, List.forall_mem_cons.mpr ⟨lw_p24, List.forall_mem_cons.mpr ⟨lw_p25, List.forall_mem_cons.mpr ⟨lw_p26, List.forall_mem_cons.mpr ⟨lw_p27, List.forall_mem_cons.mpr ⟨lw_p28, List.forall_mem_cons.mpr ⟨lw_p29, List.forall_mem_cons.mpr ⟨lw_p30, List.forall_mem_cons.mpr ⟨lw_p31, fun _ h => absurd h List.not_mem_nil⟩⟩⟩⟩⟩⟩⟩⟩⟩⟩⟩⟩⟩⟩⟩⟩
theorem lw_p32 : lw_okq (⟨"TownClocksModel", "findAll", "()V"⟩, 48) := ⟨⟨by decide +kernel, by decide +kernel⟩, List.mem_of_getElem? (i := 743) (by decide +kernel), List.mem_of_getElem? (i := 1005) (by decide +kernel), List.mem_of_getElem? (i := 1006) (by decide +kernel)⟩
theorem lw_p33 : lw_okq (⟨"TownClocksModel", "findAirBy", "(II)V"⟩, 48) := ⟨⟨by decide +kernel, by decide +kernel⟩, List.mem_of_getElem? (i := 743) (by decide +kernel), List.mem_of_getElem? (i := 1009) (by decide +kernel), List.mem_of_getElem? (i := 1010) (by decide +kernel)⟩
theorem lw_p34 : lw_okq (⟨"TownClocksModel", "isExplained", "(II)Z"⟩, 48) := ⟨⟨by decide +kernel, by decide +kernel⟩, List.mem_of_getElem? (i := 743) (by decide +kernel), List.mem_of_getElem? (i := 1013) (by decide +kernel), List.mem_of_getElem? (i := 1014) (by decide +kernel)⟩
theorem lw_p35 : lw_okq (⟨"TownClocksModel", "step", "()V"⟩, 48) := ⟨⟨by decide +kernel, by decide +kernel⟩, List.mem_of_getElem? (i := 743) (by decide +kernel), List.mem_of_getElem? (i := 1031) (by decide +kernel), List.mem_of_getElem? (i := 1032) (by decide +kernel)⟩
theorem lw_p36 : lw_okq (⟨"TownClocksModel", "byteAt", "(I)I"⟩, 48) := ⟨⟨by decide +kernel, by decide +kernel⟩, List.mem_of_getElem? (i := 743) (by decide +kernel), List.mem_of_getElem? (i := 1035) (by decide +kernel), List.mem_of_getElem? (i := 1036) (by decide +kernel)⟩
theorem lw_p37 : lw_okq (⟨"TownClocksModel", "readOne", "()V"⟩, 48) := ⟨⟨by decide +kernel, by decide +kernel⟩, List.mem_of_getElem? (i := 743) (by decide +kernel), List.mem_of_getElem? (i := 1045) (by decide +kernel), List.mem_of_getElem? (i := 1046) (by decide +kernel)⟩
theorem lw_p38 : lw_okq (⟨"TownClocksModel", "name", "()J"⟩, 48) := ⟨⟨by decide +kernel, by decide +kernel⟩, List.mem_of_getElem? (i := 743) (by decide +kernel), List.mem_of_getElem? (i := 1049) (by decide +kernel), List.mem_of_getElem? (i := 1050) (by decide +kernel)⟩
theorem lw_p39 : lw_okq (⟨"TownClocksModel", "take", "(Z)V"⟩, 48) := ⟨⟨by decide +kernel, by decide +kernel⟩, List.mem_of_getElem? (i := 743) (by decide +kernel), List.mem_of_getElem? (i := 1054) (by decide +kernel), List.mem_of_getElem? (i := 1055) (by decide +kernel)⟩
theorem lw_p40 : lw_okq (⟨"TownClocksModel", "bad", "(I)V"⟩, 48) := ⟨⟨by decide +kernel, by decide +kernel⟩, List.mem_of_getElem? (i := 743) (by decide +kernel), List.mem_of_getElem? (i := 1058) (by decide +kernel), List.mem_of_getElem? (i := 1059) (by decide +kernel)⟩
theorem lw_p41 : lw_okq (⟨"TownClocksModel", "number", "()I"⟩, 48) := ⟨⟨by decide +kernel, by decide +kernel⟩, List.mem_of_getElem? (i := 743) (by decide +kernel), List.mem_of_getElem? (i := 1062) (by decide +kernel), List.mem_of_getElem? (i := 1063) (by decide +kernel)⟩
theorem lw_p42 : lw_okq (⟨"TownClocksModel", "is", "(I)Z"⟩, 48) := ⟨⟨by decide +kernel, by decide +kernel⟩, List.mem_of_getElem? (i := 743) (by decide +kernel), List.mem_of_getElem? (i := 1069) (by decide +kernel), List.mem_of_getElem? (i := 1070) (by decide +kernel)⟩
theorem lw_p43 : lw_okq (⟨"TownClocksModel", "weight", "(I)I"⟩, 48) := ⟨⟨by decide +kernel, by decide +kernel⟩, List.mem_of_getElem? (i := 743) (by decide +kernel), List.mem_of_getElem? (i := 1095) (by decide +kernel), List.mem_of_getElem? (i := 1096) (by decide +kernel)⟩
theorem lw_p44 : lw_okq (⟨"TownClocksModel", "began", "(I)V"⟩, 48) := ⟨⟨by decide +kernel, by decide +kernel⟩, List.mem_of_getElem? (i := 743) (by decide +kernel), List.mem_of_getElem? (i := 1099) (by decide +kernel), List.mem_of_getElem? (i := 1100) (by decide +kernel)⟩
theorem lw_p45 : lw_okq (⟨"TownClocksModel", "marked", "(I)I"⟩, 48) := ⟨⟨by decide +kernel, by decide +kernel⟩, List.mem_of_getElem? (i := 743) (by decide +kernel), List.mem_of_getElem? (i := 1103) (by decide +kernel), List.mem_of_getElem? (i := 1104) (by decide +kernel)⟩
def lw_privs_3 : List (MethodName × Nat) := [(⟨"TownClocksModel", "findAll", "()V"⟩, 48), (⟨"TownClocksModel", "findAirBy", "(II)V"⟩, 48), (⟨"TownClocksModel", "isExplained", "(II)Z"⟩, 48), (⟨"TownClocksModel", "step", "()V"⟩, 48), (⟨"TownClocksModel", "byteAt", "(I)I"⟩, 48), (⟨"TownClocksModel", "readOne", "()V"⟩, 48), (⟨"TownClocksModel", "name", "()J"⟩, 48), (⟨"TownClocksModel", "take", "(Z)V"⟩, 48), (⟨"TownClocksModel", "bad", "(I)V"⟩, 48), (⟨"TownClocksModel", "number", "()I"⟩, 48), (⟨"TownClocksModel", "is", "(I)Z"⟩, 48), (⟨"TownClocksModel", "weight", "(I)I"⟩, 48), (⟨"TownClocksModel", "began", "(I)V"⟩, 48), (⟨"TownClocksModel", "marked", "(I)I"⟩, 48)]
theorem lw_r3 : ∀ q ∈ lw_privs_3, lw_okq q := List.forall_mem_cons.mpr ⟨lw_p32, List.forall_mem_cons.mpr ⟨lw_p33, List.forall_mem_cons.mpr ⟨lw_p34, List.forall_mem_cons.mpr ⟨lw_p35, List.forall_mem_cons.mpr ⟨lw_p36, List.forall_mem_cons.mpr ⟨lw_p37, List.forall_mem_cons.mpr ⟨lw_p38, List.forall_mem_cons.mpr ⟨lw_p39, List.forall_mem_cons.mpr ⟨lw_p40, List.forall_mem_cons.mpr ⟨lw_p41, List.forall_mem_cons.mpr ⟨lw_p42, List.forall_mem_cons.mpr ⟨lw_p43, List.forall_mem_cons.mpr ⟨lw_p44, List.forall_mem_cons.mpr ⟨lw_p45, fun _ h => absurd h List.not_mem_nil⟩⟩⟩⟩⟩⟩⟩⟩⟩⟩⟩⟩⟩⟩
def lw_privs : List (MethodName × Nat) := lw_privs_1 ++ (lw_privs_2 ++ (lw_privs_3))
def lw_tbl : List Cond := k2_sels lw_privs ++ tables_1
theorem lw_privs_ok : ∀ q ∈ lw_privs, lw_okq q := by
  show ∀ q ∈ lw_privs_1 ++ (lw_privs_2 ++ (lw_privs_3)), lw_okq q
  exact List.forall_mem_append.mpr ⟨lw_r1, List.forall_mem_append.mpr ⟨lw_r2, lw_r3⟩⟩
end
section
/-! ===== BEGIN words of one list among another's, by their places ===== -/
theorem goodIn_r {big : List Cond} (ws : List Cond) (ps : List Nat) (hp : ws = ps.filterMap (fun i => big[i]?)) (h : ws.all goodWord = true) : GoodIn big ws := by
  intro w hw
  have h1 := List.all_eq_true.mp h w hw
  rw [hp] at hw
  obtain ⟨i, -, hi⟩ := List.mem_filterMap.mp hw
  have hm : w ∈ big := by first | exact List.mem_of_getElem? hi | exact List.getElem?_mem hi
  exact ⟨hm, good_of_word h1⟩
theorem goodIn_app {big a b : List Cond} (ha : GoodIn big a) (hb : GoodIn big b) : GoodIn big (a ++ b) := fun w h => (List.mem_append.mp h).elim (ha w) (hb w)
theorem goodIn_ca {big a b : List Cond} {c : Cond} (ha : GoodIn big (c :: a)) (hb : GoodIn big b) : GoodIn big (c :: (a ++ b)) := fun w h => (List.mem_cons.mp h).elim (fun e => ha w (List.mem_cons.mpr (Or.inl e))) (fun h => (List.mem_append.mp h).elim (fun h => ha w (List.mem_cons.mpr (Or.inr h))) (hb w))
theorem goodIn_sub {big ws : List Cond} (hm : ∀ w ∈ ws, w ∈ big) (h : ws.all goodWord = true) : GoodIn big ws := fun w hw => ⟨hm w hw, good_of_word (List.all_eq_true.mp h w hw)⟩
/-! ===== END ===== -/

/-! ===== BEGIN printed: names, fields, word lists, decode rows ===== -/
def RX0 : String := "TownClocks$Dial"
def TX0 : u_T := fun k => match k with
  | 0 => ("TownClocks$Dial", "pipe", "LTownClocks$Pipe;", true)
  | 1 => ("TownClocks$Dial", "need", "I", true)
  | 2 => ("TownClocks$Dial", "sort", "I", true)
  | 3 => ("TownClocks$Dial", "late", "I", false)
  | 4 => ("TownClocks$Dial", "knownLeast", "I", false)
  | 5 => ("TownClocks$Dial", "puffsSinceKnown", "I", false)
  | 6 => ("TownClocks$Dial", "missedRunning", "I", false)
  | 7 => ("TownClocks$Dial", "marked", "Z", false)
  | 8 => ("TownClocks$Dial", "terms", "I", false)
  | 9 => ("TownClocks$Dial", "below", "I", false)
  | 10 => ("TownClocks$Dial", "pays", "I", false)
  | _ => ("TownClocks$Dial", "owed", "I", false)
def tyX0 : Nat → FieldType := fun k => match k with
  | 0 => .object "TownClocks$Pipe"
  | 1 => .int
  | 2 => .int
  | 3 => .int
  | 4 => .int
  | 5 => .int
  | 6 => .int
  | 7 => .boolean
  | 8 => .int
  | 9 => .int
  | 10 => .int
  | _ => .int
abbrev wsX00 : List Cond := u_ws RX0 TX0 12
theorem nmX0 : ∀ a, a < 12 → ∀ b, b < 12 → a ≠ b → (TX0 a).2.1 ≠ (TX0 b).2.1 := by decide +kernel
theorem tyX0_ok : ∀ k, k < 12 → parseFieldDescriptor (TX0 k).2.2.1 = some (tyX0 k) := by decide +kernel
abbrev cX0_init : ByteArray := prog_2_method_1_code
def yX0_init : MethodName := ⟨RX0, "<init>", "(LTownClocks$Pipe;II)V"⟩
abbrev cX0_takePuff : ByteArray := prog_2_method_2_code
def yX0_takePuff : MethodName := ⟨RX0, "takePuff", "()Z"⟩
abbrev cX0_isPaidFor : ByteArray := prog_2_method_3_code
def yX0_isPaidFor : MethodName := ⟨RX0, "isPaidFor", "(Z)Z"⟩
abbrev cX0_becomeKnown : ByteArray := prog_2_method_4_code
def yX0_becomeKnown : MethodName := ⟨RX0, "becomeKnown", "()V"⟩
abbrev cX0_putOn : ByteArray := prog_2_method_5_code
def yX0_putOn : MethodName := ⟨RX0, "putOn", "(I)V"⟩
abbrev cX0_putRight : ByteArray := prog_2_method_6_code
def yX0_putRight : MethodName := ⟨RX0, "putRight", "()V"⟩
abbrev cX0_toldKind : ByteArray := prog_2_method_7_code
def yX0_toldKind : MethodName := ⟨RX0, "toldKind", "()I"⟩
abbrev cX0_begin : ByteArray := prog_2_method_8_code
def yX0_begin : MethodName := ⟨RX0, "begin", "(III)V"⟩
def RX1 : String := "TownClocks$Explanations"
def TX1 : u_T := fun k => match k with
  | 0 => ("TownClocks$Explanations", "pipe", "[I", true)
  | 1 => ("TownClocks$Explanations", "leastLeak", "[I", true)
  | 2 => ("TownClocks$Explanations", "likeAir", "[I", true)
  | _ => ("TownClocks$Explanations", "found", "I", false)
def tyX1 : Nat → FieldType := fun k => match k with
  | 0 => .array .int
  | 1 => .array .int
  | 2 => .array .int
  | _ => .int
abbrev wsX10 : List Cond := u_ws RX1 TX1 4
theorem nmX1 : ∀ a, a < 4 → ∀ b, b < 4 → a ≠ b → (TX1 a).2.1 ≠ (TX1 b).2.1 := by decide +kernel
theorem tyX1_ok : ∀ k, k < 4 → parseFieldDescriptor (TX1 k).2.2.1 = some (tyX1 k) := by decide +kernel
abbrev cX1_init : ByteArray := prog_3_method_1_code
def yX1_init : MethodName := ⟨RX1, "<init>", "()V"⟩
abbrev cX1_find : ByteArray := prog_3_method_2_code
def yX1_find : MethodName := ⟨RX1, "find", "(Ljava/util/ArrayList;Ljava/util/ArrayList;)V"⟩
abbrev cX1_leastLeakAt : ByteArray := prog_3_method_3_code
def yX1_leastLeakAt : MethodName := ⟨RX1, "leastLeakAt", "(ILjava/util/ArrayList;)I"⟩
abbrev cX1_unlikePairs : ByteArray := prog_3_method_4_code
def yX1_unlikePairs : MethodName := ⟨RX1, "unlikePairs", "(LTownClocks$Pipe;)I"⟩
def RX2 : String := "TownClocks$Master"
def TX2 : u_T := fun k => match k with
  | 0 => ("TownClocks$Master", "minute", "I", false)
  | 1 => ("TownClocks$Master", "drift", "I", false)
  | 2 => ("TownClocks$Master", "off", "J", false)
  | 3 => ("TownClocks$Master", "sightings", "I", false)
  | _ => ("TownClocks$Master", "minutesSinceSighting", "J", false)
def tyX2 : Nat → FieldType := fun k => match k with
  | 0 => .int
  | 1 => .int
  | 2 => .long
  | 3 => .int
  | _ => .long
abbrev wsX20 : List Cond := u_ws RX2 TX2 5
theorem nmX2 : ∀ a, a < 5 → ∀ b, b < 5 → a ≠ b → (TX2 a).2.1 ≠ (TX2 b).2.1 := by decide +kernel
theorem tyX2_ok : ∀ k, k < 5 → parseFieldDescriptor (TX2 k).2.2.1 = some (tyX2 k) := by decide +kernel
abbrev cX2_init : ByteArray := prog_4_method_1_code
def yX2_init : MethodName := ⟨RX2, "<init>", "()V"⟩
abbrev cX2_tellMinute : ByteArray := prog_4_method_2_code
def yX2_tellMinute : MethodName := ⟨RX2, "tellMinute", "()V"⟩
abbrev cX2_putRightByStars : ByteArray := prog_4_method_3_code
def yX2_putRightByStars : MethodName := ⟨RX2, "putRightByStars", "()J"⟩
def RX3 : String := "TownClocks$Pipe"
def TX3 : u_T := fun k => match k with
  | 0 => ("TownClocks$Pipe", "number", "I", true)
  | 1 => ("TownClocks$Pipe", "ahead", "LTownClocks$Pipe;", true)
  | 2 => ("TownClocks$Pipe", "lossInAll", "I", true)
  | 3 => ("TownClocks$Pipe", "lagInAll", "I", true)
  | 4 => ("TownClocks$Pipe", "wayBits", "I", true)
  | _ => ("TownClocks$Pipe", "leak", "I", false)
def tyX3 : Nat → FieldType := fun k => match k with
  | 0 => .int
  | 1 => .object "TownClocks$Pipe"
  | 2 => .int
  | 3 => .int
  | 4 => .int
  | _ => .int
abbrev wsX30 : List Cond := u_ws RX3 TX3 6
theorem nmX3 : ∀ a, a < 6 → ∀ b, b < 6 → a ≠ b → (TX3 a).2.1 ≠ (TX3 b).2.1 := by decide +kernel
theorem tyX3_ok : ∀ k, k < 6 → parseFieldDescriptor (TX3 k).2.2.1 = some (tyX3 k) := by decide +kernel
abbrev cX3_init : ByteArray := prog_5_method_1_code
def yX3_init : MethodName := ⟨RX3, "<init>", "(ILTownClocks$Pipe;II)V"⟩
abbrev cX3_air : ByteArray := prog_5_method_2_code
def yX3_air : MethodName := ⟨RX3, "air", "()I"⟩
abbrev cX3_airBehindLeaks : ByteArray := prog_5_method_3_code
def yX3_airBehindLeaks : MethodName := ⟨RX3, "airBehindLeaks", "(I)I"⟩
abbrev cX3_isFedThrough : ByteArray := prog_5_method_4_code
def yX3_isFedThrough : MethodName := ⟨RX3, "isFedThrough", "(I)Z"⟩
def RX4 : String := "TownClocks$Reading"
def TX4 : u_T := fun k => match k with
  | 0 => ("TownClocks$Reading", "tape", "LTownClocks$Tape;", true)
  | 1 => ("TownClocks$Reading", "waitingTerms", "[I", true)
  | 2 => ("TownClocks$Reading", "waitingBelow", "[I", true)
  | 3 => ("TownClocks$Reading", "waitingPays", "[I", true)
  | 4 => ("TownClocks$Reading", "contractsTold", "I", false)
  | 5 => ("TownClocks$Reading", "latestFault", "I", false)
  | _ => ("TownClocks$Reading", "faultPlace", "I", false)
def tyX4 : Nat → FieldType := fun k => match k with
  | 0 => .object "TownClocks$Tape"
  | 1 => .array .int
  | 2 => .array .int
  | 3 => .array .int
  | 4 => .int
  | 5 => .int
  | _ => .int
abbrev wsX40 : List Cond := u_ws RX4 TX4 7
theorem nmX4 : ∀ a, a < 7 → ∀ b, b < 7 → a ≠ b → (TX4 a).2.1 ≠ (TX4 b).2.1 := by decide +kernel
theorem tyX4_ok : ∀ k, k < 7 → parseFieldDescriptor (TX4 k).2.2.1 = some (tyX4 k) := by decide +kernel
abbrev cX4_init : ByteArray := prog_6_method_1_code
def yX4_init : MethodName := ⟨RX4, "<init>", "(LTownClocks$Tape;)V"⟩
abbrev cX4_readTape : ByteArray := prog_6_method_2_code
def yX4_readTape : MethodName := ⟨RX4, "readTape", "(I)Z"⟩
abbrev cX4_readContract : ByteArray := prog_6_method_3_code
def yX4_readContract : MethodName := ⟨RX4, "readContract", "(I)Z"⟩
abbrev cX4_namedTerms : ByteArray := prog_6_method_4_code
def yX4_namedTerms : MethodName := ⟨RX4, "namedTerms", "()I"⟩
abbrev cX4_readNumber : ByteArray := prog_6_method_5_code
def yX4_readNumber : MethodName := ⟨RX4, "readNumber", "()Z"⟩
abbrev cX4_readSign : ByteArray := prog_6_method_6_code
def yX4_readSign : MethodName := ⟨RX4, "readSign", "(C)Z"⟩
abbrev cX4_refuse : ByteArray := prog_6_method_7_code
def yX4_refuse : MethodName := ⟨RX4, "refuse", "(I)Z"⟩
abbrev cX4_putInForce : ByteArray := prog_6_method_8_code
def yX4_putInForce : MethodName := ⟨RX4, "putInForce", "(Ljava/util/ArrayList;)V"⟩
def RX5 : String := "TownClocks$Tape"
def TX5 : u_T := fun k => match k with
  | 0 => ("TownClocks$Tape", "bytes", "[B", true)
  | 1 => ("TownClocks$Tape", "length", "I", false)
  | 2 => ("TownClocks$Tape", "sort", "I", false)
  | 3 => ("TownClocks$Tape", "first", "I", false)
  | _ => ("TownClocks$Tape", "behind", "I", false)
def tyX5 : Nat → FieldType := fun k => match k with
  | 0 => .array .byte
  | 1 => .int
  | 2 => .int
  | 3 => .int
  | _ => .int
abbrev wsX50 : List Cond := u_ws RX5 TX5 5
theorem nmX5 : ∀ a, a < 5 → ∀ b, b < 5 → a ≠ b → (TX5 a).2.1 ≠ (TX5 b).2.1 := by decide +kernel
theorem tyX5_ok : ∀ k, k < 5 → parseFieldDescriptor (TX5 k).2.2.1 = some (tyX5 k) := by decide +kernel
abbrev cX5_init : ByteArray := prog_7_method_1_code
def yX5_init : MethodName := ⟨RX5, "<init>", "()V"⟩
abbrev cX5_append : ByteArray := prog_7_method_2_code
def yX5_append : MethodName := ⟨RX5, "append", "(JI)V"⟩
abbrev cX5_rewind : ByteArray := prog_7_method_3_code
def yX5_rewind : MethodName := ⟨RX5, "rewind", "()V"⟩
abbrev cX5_readToken : ByteArray := prog_7_method_4_code
def yX5_readToken : MethodName := ⟨RX5, "readToken", "()V"⟩
abbrev cX5_endOfLetters : ByteArray := prog_7_method_5_code
def yX5_endOfLetters : MethodName := ⟨RX5, "endOfLetters", "()I"⟩
abbrev cX5_endOfFigures : ByteArray := prog_7_method_6_code
def yX5_endOfFigures : MethodName := ⟨RX5, "endOfFigures", "()I"⟩
abbrev cX5_isName : ByteArray := prog_7_method_7_code
def yX5_isName : MethodName := ⟨RX5, "isName", "(Ljava/lang/String;)Z"⟩
abbrev cX5_isSign : ByteArray := prog_7_method_8_code
def yX5_isSign : MethodName := ⟨RX5, "isSign", "(C)Z"⟩
abbrev cX5_numberValue : ByteArray := prog_7_method_9_code
def yX5_numberValue : MethodName := ⟨RX5, "numberValue", "()I"⟩
abbrev cX5_isBlank : ByteArray := prog_7_method_10_code
def yX5_isBlank : MethodName := ⟨RX5, "isBlank", "(B)Z"⟩
abbrev cX5_isLetter : ByteArray := prog_7_method_11_code
def yX5_isLetter : MethodName := ⟨RX5, "isLetter", "(B)Z"⟩
abbrev cX5_isFigure : ByteArray := prog_7_method_12_code
def yX5_isFigure : MethodName := ⟨RX5, "isFigure", "(B)Z"⟩
def RX6 : String := "TownClocks$Trace"
def TX6 : u_T := fun k => match k with
  | 0 => ("TownClocks$Trace", "numbers", "[I", true)
  | _ => ("TownClocks$Trace", "length", "I", false)
def tyX6 : Nat → FieldType := fun k => match k with
  | 0 => .array .int
  | _ => .int
abbrev wsX60 : List Cond := u_ws RX6 TX6 2
theorem nmX6 : ∀ a, a < 2 → ∀ b, b < 2 → a ≠ b → (TX6 a).2.1 ≠ (TX6 b).2.1 := by decide +kernel
theorem tyX6_ok : ∀ k, k < 2 → parseFieldDescriptor (TX6 k).2.2.1 = some (tyX6 k) := by decide +kernel
abbrev cX6_init : ByteArray := prog_8_method_1_code
def yX6_init : MethodName := ⟨RX6, "<init>", "()V"⟩
abbrev cX6_begin : ByteArray := prog_8_method_2_code
def yX6_begin : MethodName := ⟨RX6, "begin", "(I)V"⟩
def RX7 : String := "TownClocks"
def TX7 : u_T := fun k => match k with
  | 0 => ("TownClocks", "pipes", "Ljava/util/ArrayList;", true)
  | 1 => ("TownClocks", "dials", "Ljava/util/ArrayList;", true)
  | 2 => ("TownClocks", "master", "LTownClocks$Master;", true)
  | 3 => ("TownClocks", "explanations", "LTownClocks$Explanations;", true)
  | 4 => ("TownClocks", "tape", "LTownClocks$Tape;", true)
  | 5 => ("TownClocks", "reading", "LTownClocks$Reading;", true)
  | 6 => ("TownClocks", "bodies", "LTownClocks$Trace;", true)
  | _ => ("TownClocks", "missedLatest", "I", false)
def tyX7 : Nat → FieldType := fun k => match k with
  | 0 => .object "java/util/ArrayList"
  | 1 => .object "java/util/ArrayList"
  | 2 => .object "TownClocks$Master"
  | 3 => .object "TownClocks$Explanations"
  | 4 => .object "TownClocks$Tape"
  | 5 => .object "TownClocks$Reading"
  | 6 => .object "TownClocks$Trace"
  | _ => .int
abbrev wsX70 : List Cond := u_ws RX7 TX7 8
theorem nmX7 : ∀ a, a < 8 → ∀ b, b < 8 → a ≠ b → (TX7 a).2.1 ≠ (TX7 b).2.1 := by decide +kernel
theorem tyX7_ok : ∀ k, k < 8 → parseFieldDescriptor (TX7 k).2.2.1 = some (tyX7 k) := by decide +kernel
abbrev cX7_init : ByteArray := prog_1_method_1_code
def yX7_init : MethodName := ⟨RX7, "<init>", "()V"⟩
abbrev cX7_pipe : ByteArray := prog_1_method_2_code
def yX7_pipe : MethodName := ⟨RX7, "pipe", "(III)I"⟩
abbrev cX7_leak : ByteArray := prog_1_method_3_code
def yX7_leak : MethodName := ⟨RX7, "leak", "(II)I"⟩
abbrev cX7_told : ByteArray := prog_1_method_4_code
def yX7_told : MethodName := ⟨RX7, "told", "(II)I"⟩
abbrev cX7_dial : ByteArray := prog_1_method_5_code
def yX7_dial : MethodName := ⟨RX7, "dial", "(III)I"⟩
abbrev cX7_puff : ByteArray := prog_1_method_6_code
def yX7_puff : MethodName := ⟨RX7, "puff", "()I"⟩
abbrev cX7_drift : ByteArray := prog_1_method_7_code
def yX7_drift : MethodName := ⟨RX7, "drift", "(I)I"⟩
abbrev cX7_sight : ByteArray := prog_1_method_8_code
def yX7_sight : MethodName := ⟨RX7, "sight", "()J"⟩
abbrev cX7_now : ByteArray := prog_1_method_9_code
def yX7_now : MethodName := ⟨RX7, "now", "(I)J"⟩
abbrev cX7_look : ByteArray := prog_1_method_10_code
def yX7_look : MethodName := ⟨RX7, "look", "(I)I"⟩
abbrev cX7_state : ByteArray := prog_1_method_11_code
def yX7_state : MethodName := ⟨RX7, "state", "(II)I"⟩
abbrev cX7_put : ByteArray := prog_1_method_12_code
def yX7_put : MethodName := ⟨RX7, "put", "(II)I"⟩
abbrev cX7_right : ByteArray := prog_1_method_13_code
def yX7_right : MethodName := ⟨RX7, "right", "(I)I"⟩
abbrev cX7_round : ByteArray := prog_1_method_14_code
def yX7_round : MethodName := ⟨RX7, "round", "(I)I"⟩
abbrev cX7_ahead : ByteArray := prog_1_method_15_code
def yX7_ahead : MethodName := ⟨RX7, "ahead", "(I)I"⟩
abbrev cX7_mark : ByteArray := prog_1_method_16_code
def yX7_mark : MethodName := ⟨RX7, "mark", "(II)I"⟩
abbrev cX7_explains : ByteArray := prog_1_method_17_code
def yX7_explains : MethodName := ⟨RX7, "explains", "(II)I"⟩
abbrev cX7_next : ByteArray := prog_1_method_18_code
def yX7_next : MethodName := ⟨RX7, "next", "()I"⟩
abbrev cX7_feed : ByteArray := prog_1_method_19_code
def yX7_feed : MethodName := ⟨RX7, "feed", "(JI)I"⟩
abbrev cX7_contracts : ByteArray := prog_1_method_20_code
def yX7_contracts : MethodName := ⟨RX7, "contracts", "()I"⟩
abbrev cX7_fault : ByteArray := prog_1_method_21_code
def yX7_fault : MethodName := ⟨RX7, "fault", "()I"⟩
abbrev cX7_owes : ByteArray := prog_1_method_22_code
def yX7_owes : MethodName := ⟨RX7, "owes", "(I)I"⟩
abbrev cX7_kind : ByteArray := prog_1_method_23_code
def yX7_kind : MethodName := ⟨RX7, "kind", "(I)I"⟩
abbrev cX7_as : ByteArray := prog_1_method_24_code
def yX7_as : MethodName := ⟨RX7, "as", "(II)I"⟩
abbrev cX7_ask : ByteArray := prog_1_method_25_code
def yX7_ask : MethodName := ⟨RX7, "ask", "(II)I"⟩
abbrev cX7_trace : ByteArray := prog_1_method_26_code
def yX7_trace : MethodName := ⟨RX7, "trace", "(I)I"⟩
abbrev cX7_count : ByteArray := prog_1_method_27_code
def yX7_count : MethodName := ⟨RX7, "count", "(I)I"⟩
abbrev cX7_within : ByteArray := prog_1_method_28_code
def yX7_within : MethodName := ⟨RX7, "within", "(III)Z"⟩
abbrev cX7_pipeAt : ByteArray := prog_1_method_29_code
def yX7_pipeAt : MethodName := ⟨RX7, "pipeAt", "(I)LTownClocks$Pipe;"⟩
abbrev cX7_dialAt : ByteArray := prog_1_method_30_code
def yX7_dialAt : MethodName := ⟨RX7, "dialAt", "(I)LTownClocks$Dial;"⟩
abbrev cX7_isOfKind : ByteArray := prog_1_method_31_code
def yX7_isOfKind : MethodName := ⟨RX7, "isOfKind", "(II)Z"⟩
abbrev cX7_mostWrongDial : ByteArray := prog_1_method_32_code
def yX7_mostWrongDial : MethodName := ⟨RX7, "mostWrongDial", "()LTownClocks$Dial;"⟩
abbrev cX7_countOfKind : ByteArray := prog_1_method_33_code
def yX7_countOfKind : MethodName := ⟨RX7, "countOfKind", "(I)I"⟩
abbrev cX7_countContracts : ByteArray := prog_1_method_34_code
def yX7_countContracts : MethodName := ⟨RX7, "countContracts", "()I"⟩
abbrev cX7_allLates : ByteArray := prog_1_method_35_code
def yX7_allLates : MethodName := ⟨RX7, "allLates", "()I"⟩
abbrev cX7_weightOf : ByteArray := prog_1_method_36_code
def yX7_weightOf : MethodName := ⟨RX7, "weightOf", "(LTownClocks$Dial;)I"⟩
abbrev cX7_body10 : ByteArray := prog_1_method_37_code
def yX7_body10 : MethodName := ⟨RX7, "body10", "(LTownClocks$Dial;)I"⟩
abbrev cX7_body11 : ByteArray := prog_1_method_38_code
def yX7_body11 : MethodName := ⟨RX7, "body11", "(LTownClocks$Dial;)I"⟩
abbrev cX7_body12 : ByteArray := prog_1_method_39_code
def yX7_body12 : MethodName := ⟨RX7, "body12", "(LTownClocks$Dial;)I"⟩
abbrev cX7_body13 : ByteArray := prog_1_method_40_code
def yX7_body13 : MethodName := ⟨RX7, "body13", "(LTownClocks$Dial;)I"⟩
abbrev cX7_markOf : ByteArray := prog_1_method_41_code
def yX7_markOf : MethodName := ⟨RX7, "markOf", "(LTownClocks$Dial;)I"⟩
abbrev cX7_body20 : ByteArray := prog_1_method_42_code
def yX7_body20 : MethodName := ⟨RX7, "body20", "(LTownClocks$Dial;)I"⟩
abbrev cX7_body21 : ByteArray := prog_1_method_43_code
def yX7_body21 : MethodName := ⟨RX7, "body21", "(LTownClocks$Dial;)I"⟩
abbrev cX7_body22 : ByteArray := prog_1_method_44_code
def yX7_body22 : MethodName := ⟨RX7, "body22", "(LTownClocks$Dial;)I"⟩
def RX8 : String := "TownClocksModel"
def TX8 : u_T := fun k => match k with
  | 0 => ("TownClocksModel", "thrown", "I", false)
  | 1 => ("TownClocksModel", "pipes", "I", false)
  | 2 => ("TownClocksModel", "parent", "[I", true)
  | 3 => ("TownClocksModel", "loss", "[I", true)
  | 4 => ("TownClocksModel", "lag", "[I", true)
  | 5 => ("TownClocksModel", "leak", "[I", true)
  | 6 => ("TownClocksModel", "air", "[I", true)
  | 7 => ("TownClocksModel", "dials", "I", false)
  | 8 => ("TownClocksModel", "on", "[I", true)
  | 9 => ("TownClocksModel", "need", "[I", true)
  | 10 => ("TownClocksModel", "sortOf", "[I", true)
  | 11 => ("TownClocksModel", "late", "[I", true)
  | 12 => ("TownClocksModel", "running", "[I", true)
  | 13 => ("TownClocksModel", "known", "[I", true)
  | 14 => ("TownClocksModel", "since", "[I", true)
  | 15 => ("TownClocksModel", "hasMissed", "[Z", true)
  | 16 => ("TownClocksModel", "isMarked", "[Z", true)
  | 17 => ("TownClocksModel", "contract", "[I", true)
  | 18 => ("TownClocksModel", "first", "[I", true)
  | 19 => ("TownClocksModel", "second", "[I", true)
  | 20 => ("TownClocksModel", "owed", "[I", true)
  | 21 => ("TownClocksModel", "minute", "I", false)
  | 22 => ("TownClocksModel", "drift", "I", false)
  | 23 => ("TownClocksModel", "off", "J", false)
  | 24 => ("TownClocksModel", "sightedAt", "I", false)
  | 25 => ("TownClocksModel", "sightings", "I", false)
  | 26 => ("TownClocksModel", "found", "I", false)
  | 27 => ("TownClocksModel", "foundPipe", "[I", true)
  | 28 => ("TownClocksModel", "foundLeak", "[I", true)
  | 29 => ("TownClocksModel", "isLooked", "[Z", true)
  | 30 => ("TownClocksModel", "airBy", "[I", true)
  | 31 => ("TownClocksModel", "tape", "[I", true)
  | 32 => ("TownClocksModel", "taped", "I", false)
  | 33 => ("TownClocksModel", "latest", "I", false)
  | 34 => ("TownClocksModel", "size", "I", false)
  | 35 => ("TownClocksModel", "at", "I", false)
  | 36 => ("TownClocksModel", "sort", "I", false)
  | 37 => ("TownClocksModel", "place", "I", false)
  | 38 => ("TownClocksModel", "end", "I", false)
  | 39 => ("TownClocksModel", "fault", "I", false)
  | 40 => ("TownClocksModel", "faultAt", "I", false)
  | 41 => ("TownClocksModel", "told", "I", false)
  | 42 => ("TownClocksModel", "toldDial", "[I", true)
  | 43 => ("TownClocksModel", "toldSort", "[I", true)
  | 44 => ("TownClocksModel", "toldFirst", "[I", true)
  | 45 => ("TownClocksModel", "toldSecond", "[I", true)
  | 46 => ("TownClocksModel", "trace", "[I", true)
  | _ => ("TownClocksModel", "traced", "I", false)
def tyX8 : Nat → FieldType := fun k => match k with
  | 0 => .int
  | 1 => .int
  | 2 => .array .int
  | 3 => .array .int
  | 4 => .array .int
  | 5 => .array .int
  | 6 => .array .int
  | 7 => .int
  | 8 => .array .int
  | 9 => .array .int
  | 10 => .array .int
  | 11 => .array .int
  | 12 => .array .int
  | 13 => .array .int
  | 14 => .array .int
  | 15 => .array .boolean
  | 16 => .array .boolean
  | 17 => .array .int
  | 18 => .array .int
  | 19 => .array .int
  | 20 => .array .int
  | 21 => .int
  | 22 => .int
  | 23 => .long
  | 24 => .int
  | 25 => .int
  | 26 => .int
  | 27 => .array .int
  | 28 => .array .int
  | 29 => .array .boolean
  | 30 => .array .int
  | 31 => .array .int
  | 32 => .int
  | 33 => .int
  | 34 => .int
  | 35 => .int
  | 36 => .int
  | 37 => .int
  | 38 => .int
  | 39 => .int
  | 40 => .int
  | 41 => .int
  | 42 => .array .int
  | 43 => .array .int
  | 44 => .array .int
  | 45 => .array .int
  | 46 => .array .int
  | _ => .int
abbrev wsX80 : List Cond := u_ws RX8 TX8 48
theorem nmX8 : ∀ a, a < 48 → ∀ b, b < 48 → a ≠ b → (TX8 a).2.1 ≠ (TX8 b).2.1 := by decide +kernel
theorem tyX8_ok : ∀ k, k < 48 → parseFieldDescriptor (TX8 k).2.2.1 = some (tyX8 k) := by decide +kernel
abbrev cX8_init : ByteArray := prog_10_method_1_code
def yX8_init : MethodName := ⟨RX8, "<init>", "()V"⟩
abbrev cX8_in : ByteArray := prog_10_method_3_code
def yX8_in : MethodName := ⟨RX8, "in", "(JJJ)Z"⟩
abbrev cX8_isPipe : ByteArray := prog_10_method_4_code
def yX8_isPipe : MethodName := ⟨RX8, "isPipe", "(I)Z"⟩
abbrev cX8_pipe : ByteArray := prog_10_method_5_code
def yX8_pipe : MethodName := ⟨RX8, "pipe", "(III)I"⟩
abbrev cX8_leak : ByteArray := prog_10_method_6_code
def yX8_leak : MethodName := ⟨RX8, "leak", "(II)I"⟩
abbrev cX8_findAir : ByteArray := prog_10_method_7_code
def yX8_findAir : MethodName := ⟨RX8, "findAir", "()V"⟩
abbrev cX8_findAirBy : ByteArray := prog_10_method_8_code
def yX8_findAirBy : MethodName := ⟨RX8, "findAirBy", "(II)V"⟩
abbrev cX8_lagOf : ByteArray := prog_10_method_9_code
def yX8_lagOf : MethodName := ⟨RX8, "lagOf", "(I)I"⟩
abbrev cX8_told : ByteArray := prog_10_method_10_code
def yX8_told : MethodName := ⟨RX8, "told", "(II)I"⟩
abbrev cX8_isDial : ByteArray := prog_10_method_11_code
def yX8_isDial : MethodName := ⟨RX8, "isDial", "(I)Z"⟩
abbrev cX8_dial : ByteArray := prog_10_method_12_code
def yX8_dial : MethodName := ⟨RX8, "dial", "(III)I"⟩
abbrev cX8_puff : ByteArray := prog_10_method_13_code
def yX8_puff : MethodName := ⟨RX8, "puff", "()I"⟩
abbrev cX8_drift : ByteArray := prog_10_method_14_code
def yX8_drift : MethodName := ⟨RX8, "drift", "(I)I"⟩
abbrev cX8_sight : ByteArray := prog_10_method_15_code
def yX8_sight : MethodName := ⟨RX8, "sight", "()J"⟩
abbrev cX8_now : ByteArray := prog_10_method_16_code
def yX8_now : MethodName := ⟨RX8, "now", "(I)J"⟩
abbrev cX8_look : ByteArray := prog_10_method_17_code
def yX8_look : MethodName := ⟨RX8, "look", "(I)I"⟩
abbrev cX8_state : ByteArray := prog_10_method_18_code
def yX8_state : MethodName := ⟨RX8, "state", "(II)I"⟩
abbrev cX8_put : ByteArray := prog_10_method_19_code
def yX8_put : MethodName := ⟨RX8, "put", "(II)I"⟩
abbrev cX8_makeRight : ByteArray := prog_10_method_20_code
def yX8_makeRight : MethodName := ⟨RX8, "makeRight", "(I)V"⟩
abbrev cX8_right : ByteArray := prog_10_method_21_code
def yX8_right : MethodName := ⟨RX8, "right", "(I)I"⟩
abbrev cX8_size : ByteArray := prog_10_method_22_code
def yX8_size : MethodName := ⟨RX8, "size", "(I)I"⟩
abbrev cX8_round : ByteArray := prog_10_method_23_code
def yX8_round : MethodName := ⟨RX8, "round", "(I)I"⟩
abbrev cX8_ahead : ByteArray := prog_10_method_24_code
def yX8_ahead : MethodName := ⟨RX8, "ahead", "(I)I"⟩
abbrev cX8_mark : ByteArray := prog_10_method_25_code
def yX8_mark : MethodName := ⟨RX8, "mark", "(II)I"⟩
abbrev cX8_isExplained : ByteArray := prog_10_method_26_code
def yX8_isExplained : MethodName := ⟨RX8, "isExplained", "(II)Z"⟩
abbrev cX8_findAll : ByteArray := prog_10_method_27_code
def yX8_findAll : MethodName := ⟨RX8, "findAll", "()V"⟩
abbrev cX8_explains : ByteArray := prog_10_method_28_code
def yX8_explains : MethodName := ⟨RX8, "explains", "(II)I"⟩
abbrev cX8_next : ByteArray := prog_10_method_29_code
def yX8_next : MethodName := ⟨RX8, "next", "()I"⟩
abbrev cX8_feed : ByteArray := prog_10_method_30_code
def yX8_feed : MethodName := ⟨RX8, "feed", "(JI)I"⟩
abbrev cX8_byteAt : ByteArray := prog_10_method_31_code
def yX8_byteAt : MethodName := ⟨RX8, "byteAt", "(I)I"⟩
abbrev cX8_isLetter : ByteArray := prog_10_method_32_code
def yX8_isLetter : MethodName := ⟨RX8, "isLetter", "(I)Z"⟩
abbrev cX8_isFigure : ByteArray := prog_10_method_33_code
def yX8_isFigure : MethodName := ⟨RX8, "isFigure", "(I)Z"⟩
abbrev cX8_step : ByteArray := prog_10_method_34_code
def yX8_step : MethodName := ⟨RX8, "step", "()V"⟩
abbrev cX8_bad : ByteArray := prog_10_method_35_code
def yX8_bad : MethodName := ⟨RX8, "bad", "(I)V"⟩
abbrev cX8_take : ByteArray := prog_10_method_36_code
def yX8_take : MethodName := ⟨RX8, "take", "(Z)V"⟩
abbrev cX8_is : ByteArray := prog_10_method_37_code
def yX8_is : MethodName := ⟨RX8, "is", "(I)Z"⟩
abbrev cX8_name : ByteArray := prog_10_method_38_code
def yX8_name : MethodName := ⟨RX8, "name", "()J"⟩
abbrev cX8_number : ByteArray := prog_10_method_39_code
def yX8_number : MethodName := ⟨RX8, "number", "()I"⟩
abbrev cX8_readOne : ByteArray := prog_10_method_40_code
def yX8_readOne : MethodName := ⟨RX8, "readOne", "()V"⟩
abbrev cX8_contracts : ByteArray := prog_10_method_41_code
def yX8_contracts : MethodName := ⟨RX8, "contracts", "()I"⟩
abbrev cX8_fault : ByteArray := prog_10_method_42_code
def yX8_fault : MethodName := ⟨RX8, "fault", "()I"⟩
abbrev cX8_owes : ByteArray := prog_10_method_43_code
def yX8_owes : MethodName := ⟨RX8, "owes", "(I)I"⟩
abbrev cX8_kindOf : ByteArray := prog_10_method_44_code
def yX8_kindOf : MethodName := ⟨RX8, "kindOf", "(I)I"⟩
abbrev cX8_kind : ByteArray := prog_10_method_45_code
def yX8_kind : MethodName := ⟨RX8, "kind", "(I)I"⟩
abbrev cX8_as : ByteArray := prog_10_method_46_code
def yX8_as : MethodName := ⟨RX8, "as", "(II)I"⟩
abbrev cX8_began : ByteArray := prog_10_method_47_code
def yX8_began : MethodName := ⟨RX8, "began", "(I)V"⟩
abbrev cX8_weight : ByteArray := prog_10_method_48_code
def yX8_weight : MethodName := ⟨RX8, "weight", "(I)I"⟩
abbrev cX8_marked : ByteArray := prog_10_method_49_code
def yX8_marked : MethodName := ⟨RX8, "marked", "(I)I"⟩
abbrev cX8_ask : ByteArray := prog_10_method_50_code
def yX8_ask : MethodName := ⟨RX8, "ask", "(II)I"⟩
abbrev cX8_trace : ByteArray := prog_10_method_51_code
def yX8_trace : MethodName := ⟨RX8, "trace", "(I)I"⟩
abbrev cX8_count : ByteArray := prog_10_method_52_code
def yX8_count : MethodName := ⟨RX8, "count", "(I)I"⟩
def RJx145de : String := "java/io/Serializable"
def TJx145de : u_T := fun k => match k with
  | _ => ("", "", "", false)
def tyJx145de : Nat → FieldType := fun k => match k with
  | _ => .int
abbrev wsJx145de0 : List Cond := u_ws RJx145de TJx145de 0
theorem nmJx145de : ∀ a, a < 0 → ∀ b, b < 0 → a ≠ b → (TJx145de a).2.1 ≠ (TJx145de b).2.1 := by decide +kernel
theorem tyJx145de_ok : ∀ k, k < 0 → parseFieldDescriptor (TJx145de k).2.2.1 = some (tyJx145de k) := by decide +kernel
def RJx9f9b0 : String := "java/lang/CharSequence"
def TJx9f9b0 : u_T := fun k => match k with
  | _ => ("", "", "", false)
def tyJx9f9b0 : Nat → FieldType := fun k => match k with
  | _ => .int
abbrev wsJx9f9b00 : List Cond := u_ws RJx9f9b0 TJx9f9b0 0
theorem nmJx9f9b0 : ∀ a, a < 0 → ∀ b, b < 0 → a ≠ b → (TJx9f9b0 a).2.1 ≠ (TJx9f9b0 b).2.1 := by decide +kernel
theorem tyJx9f9b0_ok : ∀ k, k < 0 → parseFieldDescriptor (TJx9f9b0 k).2.2.1 = some (tyJx9f9b0 k) := by decide +kernel
def RJx8e188 : String := "java/lang/Cloneable"
def TJx8e188 : u_T := fun k => match k with
  | _ => ("", "", "", false)
def tyJx8e188 : Nat → FieldType := fun k => match k with
  | _ => .int
abbrev wsJx8e1880 : List Cond := u_ws RJx8e188 TJx8e188 0
theorem nmJx8e188 : ∀ a, a < 0 → ∀ b, b < 0 → a ≠ b → (TJx8e188 a).2.1 ≠ (TJx8e188 b).2.1 := by decide +kernel
theorem tyJx8e188_ok : ∀ k, k < 0 → parseFieldDescriptor (TJx8e188 k).2.2.1 = some (tyJx8e188 k) := by decide +kernel
def RJxb160c : String := "java/lang/Comparable"
def TJxb160c : u_T := fun k => match k with
  | _ => ("", "", "", false)
def tyJxb160c : Nat → FieldType := fun k => match k with
  | _ => .int
abbrev wsJxb160c0 : List Cond := u_ws RJxb160c TJxb160c 0
theorem nmJxb160c : ∀ a, a < 0 → ∀ b, b < 0 → a ≠ b → (TJxb160c a).2.1 ≠ (TJxb160c b).2.1 := by decide +kernel
theorem tyJxb160c_ok : ∀ k, k < 0 → parseFieldDescriptor (TJxb160c k).2.2.1 = some (tyJxb160c k) := by decide +kernel
def RJxab1ab : String := "java/lang/Iterable"
def TJxab1ab : u_T := fun k => match k with
  | _ => ("", "", "", false)
def tyJxab1ab : Nat → FieldType := fun k => match k with
  | _ => .int
abbrev wsJxab1ab0 : List Cond := u_ws RJxab1ab TJxab1ab 0
theorem nmJxab1ab : ∀ a, a < 0 → ∀ b, b < 0 → a ≠ b → (TJxab1ab a).2.1 ≠ (TJxab1ab b).2.1 := by decide +kernel
theorem tyJxab1ab_ok : ∀ k, k < 0 → parseFieldDescriptor (TJxab1ab k).2.2.1 = some (tyJxab1ab k) := by decide +kernel
def RJ9 : String := "java/lang/Math"
def TJ9 : u_T := fun k => match k with
  | _ => ("", "", "", false)
def tyJ9 : Nat → FieldType := fun k => match k with
  | _ => .int
abbrev wsJ90 : List Cond := u_ws RJ9 TJ9 0
theorem nmJ9 : ∀ a, a < 0 → ∀ b, b < 0 → a ≠ b → (TJ9 a).2.1 ≠ (TJ9 b).2.1 := by decide +kernel
theorem tyJ9_ok : ∀ k, k < 0 → parseFieldDescriptor (TJ9 k).2.2.1 = some (tyJ9 k) := by decide +kernel
abbrev cJ9_abs_0f7a4 : ByteArray := prog_16_method_59_code
def yJ9_abs_0f7a4 : MethodName := ⟨RJ9, "abs", "(I)I"⟩
abbrev cJ9_max_7cf53 : ByteArray := prog_16_method_65_code
def yJ9_max_7cf53 : MethodName := ⟨RJ9, "max", "(II)I"⟩
abbrev cJ9_min_7cf53 : ByteArray := prog_16_method_69_code
def yJ9_min_7cf53 : MethodName := ⟨RJ9, "min", "(II)I"⟩
def RJ0 : String := "java/lang/String"
def TJ0 : u_T := fun k => match k with
  | _ => ("", "", "", false)
def tyJ0 : Nat → FieldType := fun k => match k with
  | _ => .int
abbrev wsJ00 : List Cond := u_ws RJ0 TJ0 0
theorem nmJ0 : ∀ a, a < 0 → ∀ b, b < 0 → a ≠ b → (TJ0 a).2.1 ≠ (TJ0 b).2.1 := by decide +kernel
theorem tyJ0_ok : ∀ k, k < 0 → parseFieldDescriptor (TJ0 k).2.2.1 = some (tyJ0 k) := by decide +kernel
abbrev cJ0_length_8abf5 : ByteArray := prog_17_method_54_code
def yJ0_length_8abf5 : MethodName := ⟨RJ0, "length", "()I"⟩
abbrev cJ0_charAt_5068e : ByteArray := prog_17_method_56_code
def yJ0_charAt_5068e : MethodName := ⟨RJ0, "charAt", "(I)C"⟩
abbrev cJ0_coder_7d493 : ByteArray := prog_17_method_152_code
def yJ0_coder_7d493 : MethodName := ⟨RJ0, "coder", "()B"⟩
abbrev cJ0_isLatin1_aae02 : ByteArray := prog_17_method_154_code
def yJ0_isLatin1_aae02 : MethodName := ⟨RJ0, "isLatin1", "()Z"⟩
abbrev cJ0_checkIndex_df160 : ByteArray := prog_17_method_155_code
def yJ0_checkIndex_df160 : MethodName := ⟨RJ0, "checkIndex", "(II)V"⟩
def RJ1 : String := "java/lang/StringLatin1"
def TJ1 : u_T := fun k => match k with
  | _ => ("", "", "", false)
def tyJ1 : Nat → FieldType := fun k => match k with
  | _ => .int
abbrev wsJ10 : List Cond := u_ws RJ1 TJ1 0
theorem nmJ1 : ∀ a, a < 0 → ∀ b, b < 0 → a ≠ b → (TJ1 a).2.1 ≠ (TJ1 b).2.1 := by decide +kernel
theorem tyJ1_ok : ∀ k, k < 0 → parseFieldDescriptor (TJ1 k).2.2.1 = some (tyJ1 k) := by decide +kernel
abbrev cJ1_charAt_3b067 : ByteArray := prog_18_method_2_code
def yJ1_charAt_3b067 : MethodName := ⟨RJ1, "charAt", "([BI)C"⟩
def RJ2 : String := "java/lang/StringUTF16"
def TJ2 : u_T := fun k => match k with
  | _ => ("", "", "", false)
def tyJ2 : Nat → FieldType := fun k => match k with
  | _ => .int
abbrev wsJ20 : List Cond := u_ws RJ2 TJ2 0
theorem nmJ2 : ∀ a, a < 0 → ∀ b, b < 0 → a ≠ b → (TJ2 a).2.1 ≠ (TJ2 b).2.1 := by decide +kernel
theorem tyJ2_ok : ∀ k, k < 0 → parseFieldDescriptor (TJ2 k).2.2.1 = some (tyJ2 k) := by decide +kernel
abbrev cJ2_getChar_3b067 : ByteArray := prog_19_method_5_code
def yJ2_getChar_3b067 : MethodName := ⟨RJ2, "getChar", "([BI)C"⟩
abbrev cJ2_length_9d52b : ByteArray := prog_19_method_6_code
def yJ2_length_9d52b : MethodName := ⟨RJ2, "length", "([B)I"⟩
abbrev cJ2_charAt_3b067 : ByteArray := prog_19_method_83_code
def yJ2_charAt_3b067 : MethodName := ⟨RJ2, "charAt", "([BI)C"⟩
abbrev cJ2_checkIndex_2214a : ByteArray := prog_19_method_91_code
def yJ2_checkIndex_2214a : MethodName := ⟨RJ2, "checkIndex", "(I[B)V"⟩
def RJ10 : String := "java/lang/System"
def TJ10 : u_T := fun k => match k with
  | _ => ("", "", "", false)
def tyJ10 : Nat → FieldType := fun k => match k with
  | _ => .int
abbrev wsJ100 : List Cond := u_ws RJ10 TJ10 0
theorem nmJ10 : ∀ a, a < 0 → ∀ b, b < 0 → a ≠ b → (TJ10 a).2.1 ≠ (TJ10 b).2.1 := by decide +kernel
theorem tyJ10_ok : ∀ k, k < 0 → parseFieldDescriptor (TJ10 k).2.2.1 = some (tyJ10 k) := by decide +kernel
def RJxfd54e : String := "java/lang/constant/Constable"
def TJxfd54e : u_T := fun k => match k with
  | _ => ("", "", "", false)
def tyJxfd54e : Nat → FieldType := fun k => match k with
  | _ => .int
abbrev wsJxfd54e0 : List Cond := u_ws RJxfd54e TJxfd54e 0
theorem nmJxfd54e : ∀ a, a < 0 → ∀ b, b < 0 → a ≠ b → (TJxfd54e a).2.1 ≠ (TJxfd54e b).2.1 := by decide +kernel
theorem tyJxfd54e_ok : ∀ k, k < 0 → parseFieldDescriptor (TJxfd54e k).2.2.1 = some (tyJxfd54e k) := by decide +kernel
def RJx3cf43 : String := "java/lang/constant/ConstantDesc"
def TJx3cf43 : u_T := fun k => match k with
  | _ => ("", "", "", false)
def tyJx3cf43 : Nat → FieldType := fun k => match k with
  | _ => .int
abbrev wsJx3cf430 : List Cond := u_ws RJx3cf43 TJx3cf43 0
theorem nmJx3cf43 : ∀ a, a < 0 → ∀ b, b < 0 → a ≠ b → (TJx3cf43 a).2.1 ≠ (TJx3cf43 b).2.1 := by decide +kernel
theorem tyJx3cf43_ok : ∀ k, k < 0 → parseFieldDescriptor (TJx3cf43 k).2.2.1 = some (tyJx3cf43 k) := by decide +kernel
def RJxa1e45 : String := "java/util/AbstractCollection"
def TJxa1e45 : u_T := fun k => match k with
  | _ => ("", "", "", false)
def tyJxa1e45 : Nat → FieldType := fun k => match k with
  | _ => .int
abbrev wsJxa1e450 : List Cond := u_ws RJxa1e45 TJxa1e45 0
theorem nmJxa1e45 : ∀ a, a < 0 → ∀ b, b < 0 → a ≠ b → (TJxa1e45 a).2.1 ≠ (TJxa1e45 b).2.1 := by decide +kernel
theorem tyJxa1e45_ok : ∀ k, k < 0 → parseFieldDescriptor (TJxa1e45 k).2.2.1 = some (tyJxa1e45 k) := by decide +kernel
abbrev cJxa1e45_init_da8c8 : ByteArray := prog_23_method_1_code
def yJxa1e45_init_da8c8 : MethodName := ⟨RJxa1e45, "<init>", "()V"⟩
def RJxc12de : String := "java/util/AbstractList"
def TJxc12de : u_T := fun k => match k with
  | _ => ("", "", "", false)
def tyJxc12de : Nat → FieldType := fun k => match k with
  | _ => .int
abbrev wsJxc12de0 : List Cond := u_ws RJxc12de TJxc12de 0
theorem nmJxc12de : ∀ a, a < 0 → ∀ b, b < 0 → a ≠ b → (TJxc12de a).2.1 ≠ (TJxc12de b).2.1 := by decide +kernel
theorem tyJxc12de_ok : ∀ k, k < 0 → parseFieldDescriptor (TJxc12de k).2.2.1 = some (tyJxc12de k) := by decide +kernel
abbrev cJxc12de_init_da8c8 : ByteArray := prog_24_method_1_code
def yJxc12de_init_da8c8 : MethodName := ⟨RJxc12de, "<init>", "()V"⟩
def RJx4a65c : String := "java/util/ArrayList"
def TJx4a65c : u_T := fun k => match k with
  | 0 => ("java/util/AbstractList", "modCount", "I", false)
  | 1 => ("java/util/ArrayList", "elementData", "[Ljava/lang/Object;", false)
  | _ => ("java/util/ArrayList", "size", "I", false)
def tyJx4a65c : Nat → FieldType := fun k => match k with
  | 0 => .int
  | 1 => .array (.object "java/lang/Object")
  | _ => .int
abbrev wsJx4a65c0 : List Cond := u_ws RJx4a65c TJx4a65c 3
theorem nmJx4a65c : ∀ a, a < 3 → ∀ b, b < 3 → a ≠ b → (TJx4a65c a).2.1 ≠ (TJx4a65c b).2.1 := by decide +kernel
theorem tyJx4a65c_ok : ∀ k, k < 3 → parseFieldDescriptor (TJx4a65c k).2.2.1 = some (tyJx4a65c k) := by decide +kernel
abbrev cJx4a65c_init_da8c8 : ByteArray := prog_25_method_2_code
def yJx4a65c_init_da8c8 : MethodName := ⟨RJx4a65c, "<init>", "()V"⟩
abbrev cJx4a65c_grow_92f84 : ByteArray := prog_25_method_6_code
def yJx4a65c_grow_92f84 : MethodName := ⟨RJx4a65c, "grow", "(I)[Ljava/lang/Object;"⟩
abbrev cJx4a65c_grow_d5877 : ByteArray := prog_25_method_7_code
def yJx4a65c_grow_d5877 : MethodName := ⟨RJx4a65c, "grow", "()[Ljava/lang/Object;"⟩
abbrev cJx4a65c_size_8abf5 : ByteArray := prog_25_method_8_code
def yJx4a65c_size_8abf5 : MethodName := ⟨RJx4a65c, "size", "()I"⟩
abbrev cJx4a65c_elementData_915e3 : ByteArray := prog_25_method_18_code
def yJx4a65c_elementData_915e3 : MethodName := ⟨RJx4a65c, "elementData", "(I)Ljava/lang/Object;"⟩
abbrev cJx4a65c_get_915e3 : ByteArray := prog_25_method_20_code
def yJx4a65c_get_915e3 : MethodName := ⟨RJx4a65c, "get", "(I)Ljava/lang/Object;"⟩
abbrev cJx4a65c_add_72be8 : ByteArray := prog_25_method_24_code
def yJx4a65c_add_72be8 : MethodName := ⟨RJx4a65c, "add", "(Ljava/lang/Object;[Ljava/lang/Object;I)V"⟩
abbrev cJx4a65c_add_9ea2d : ByteArray := prog_25_method_25_code
def yJx4a65c_add_9ea2d : MethodName := ⟨RJx4a65c, "add", "(Ljava/lang/Object;)Z"⟩
def RJ7 : String := "java/util/Arrays"
def TJ7 : u_T := fun k => match k with
  | _ => ("", "", "", false)
def tyJ7 : Nat → FieldType := fun k => match k with
  | _ => .int
abbrev wsJ70 : List Cond := u_ws RJ7 TJ7 0
theorem nmJ7 : ∀ a, a < 0 → ∀ b, b < 0 → a ≠ b → (TJ7 a).2.1 ≠ (TJ7 b).2.1 := by decide +kernel
theorem tyJ7_ok : ∀ k, k < 0 → parseFieldDescriptor (TJ7 k).2.2.1 = some (tyJ7 k) := by decide +kernel
abbrev cJ7_fill_53178 : ByteArray := prog_26_method_103_code
def yJ7_fill_53178 : MethodName := ⟨RJ7, "fill", "([II)V"⟩
abbrev cJ7_copyOf_1904c : ByteArray := prog_26_method_119_code
def yJ7_copyOf_1904c : MethodName := ⟨RJ7, "copyOf", "([Ljava/lang/Object;I)[Ljava/lang/Object;"⟩
abbrev cJ7_copyOf_6403c : ByteArray := prog_26_method_120_code
def yJ7_copyOf_6403c : MethodName := ⟨RJ7, "copyOf", "([Ljava/lang/Object;ILjava/lang/Class;)[Ljava/lang/Object;"⟩
def RJx5ef63 : String := "java/util/Collection"
def TJx5ef63 : u_T := fun k => match k with
  | _ => ("", "", "", false)
def tyJx5ef63 : Nat → FieldType := fun k => match k with
  | _ => .int
abbrev wsJx5ef630 : List Cond := u_ws RJx5ef63 TJx5ef63 0
theorem nmJx5ef63 : ∀ a, a < 0 → ∀ b, b < 0 → a ≠ b → (TJx5ef63 a).2.1 ≠ (TJx5ef63 b).2.1 := by decide +kernel
theorem tyJx5ef63_ok : ∀ k, k < 0 → parseFieldDescriptor (TJx5ef63 k).2.2.1 = some (tyJx5ef63 k) := by decide +kernel
def RJxbd725 : String := "java/util/List"
def TJxbd725 : u_T := fun k => match k with
  | _ => ("", "", "", false)
def tyJxbd725 : Nat → FieldType := fun k => match k with
  | _ => .int
abbrev wsJxbd7250 : List Cond := u_ws RJxbd725 TJxbd725 0
theorem nmJxbd725 : ∀ a, a < 0 → ∀ b, b < 0 → a ≠ b → (TJxbd725 a).2.1 ≠ (TJxbd725 b).2.1 := by decide +kernel
theorem tyJxbd725_ok : ∀ k, k < 0 → parseFieldDescriptor (TJxbd725 k).2.2.1 = some (tyJxbd725 k) := by decide +kernel
def RJ15 : String := "java/util/Objects"
def TJ15 : u_T := fun k => match k with
  | _ => ("", "", "", false)
def tyJ15 : Nat → FieldType := fun k => match k with
  | _ => .int
abbrev wsJ150 : List Cond := u_ws RJ15 TJ15 0
theorem nmJ15 : ∀ a, a < 0 → ∀ b, b < 0 → a ≠ b → (TJ15 a).2.1 ≠ (TJ15 b).2.1 := by decide +kernel
theorem tyJ15_ok : ∀ k, k < 0 → parseFieldDescriptor (TJ15 k).2.2.1 = some (tyJ15 k) := by decide +kernel
abbrev cJ15_checkIndex_7cf53 : ByteArray := prog_29_method_17_code
def yJ15_checkIndex_7cf53 : MethodName := ⟨RJ15, "checkIndex", "(II)I"⟩
def RJxf0a74 : String := "java/util/RandomAccess"
def TJxf0a74 : u_T := fun k => match k with
  | _ => ("", "", "", false)
def tyJxf0a74 : Nat → FieldType := fun k => match k with
  | _ => .int
abbrev wsJxf0a740 : List Cond := u_ws RJxf0a74 TJxf0a74 0
theorem nmJxf0a74 : ∀ a, a < 0 → ∀ b, b < 0 → a ≠ b → (TJxf0a74 a).2.1 ≠ (TJxf0a74 b).2.1 := by decide +kernel
theorem tyJxf0a74_ok : ∀ k, k < 0 → parseFieldDescriptor (TJxf0a74 k).2.2.1 = some (tyJxf0a74 k) := by decide +kernel
def RJxa66e6 : String := "java/util/SequencedCollection"
def TJxa66e6 : u_T := fun k => match k with
  | _ => ("", "", "", false)
def tyJxa66e6 : Nat → FieldType := fun k => match k with
  | _ => .int
abbrev wsJxa66e60 : List Cond := u_ws RJxa66e6 TJxa66e6 0
theorem nmJxa66e6 : ∀ a, a < 0 → ∀ b, b < 0 → a ≠ b → (TJxa66e6 a).2.1 ≠ (TJxa66e6 b).2.1 := by decide +kernel
theorem tyJxa66e6_ok : ∀ k, k < 0 → parseFieldDescriptor (TJxa66e6 k).2.2.1 = some (tyJxa66e6 k) := by decide +kernel
def RJ8 : String := "jdk/internal/util/ArraysSupport"
def TJ8 : u_T := fun k => match k with
  | _ => ("", "", "", false)
def tyJ8 : Nat → FieldType := fun k => match k with
  | _ => .int
abbrev wsJ80 : List Cond := u_ws RJ8 TJ8 0
theorem nmJ8 : ∀ a, a < 0 → ∀ b, b < 0 → a ≠ b → (TJ8 a).2.1 ≠ (TJ8 b).2.1 := by decide +kernel
theorem tyJ8_ok : ∀ k, k < 0 → parseFieldDescriptor (TJ8 k).2.2.1 = some (tyJ8 k) := by decide +kernel
abbrev cJ8_newLength_cabcc : ByteArray := prog_32_method_27_code
def yJ8_newLength_cabcc : MethodName := ⟨RJ8, "newLength", "(III)I"⟩
abbrev cJ8_hugeLength_7cf53 : ByteArray := prog_32_method_28_code
def yJ8_hugeLength_7cf53 : MethodName := ⟨RJ8, "hugeLength", "(II)I"⟩
def RJ3 : String := "jdk/internal/util/Preconditions"
def TJ3 : u_T := fun k => match k with
  | _ => ("", "", "", false)
def tyJ3 : Nat → FieldType := fun k => match k with
  | _ => .int
abbrev wsJ30 : List Cond := u_ws RJ3 TJ3 0
theorem nmJ3 : ∀ a, a < 0 → ∀ b, b < 0 → a ≠ b → (TJ3 a).2.1 ≠ (TJ3 b).2.1 := by decide +kernel
theorem tyJ3_ok : ∀ k, k < 0 → parseFieldDescriptor (TJ3 k).2.2.1 = some (tyJ3 k) := by decide +kernel
abbrev cJ3_checkIndex_8e157 : ByteArray := prog_33_method_11_code
def yJ3_checkIndex_8e157 : MethodName := ⟨RJ3, "checkIndex", "(IILjava/util/function/BiFunction;)I"⟩
def RL : String := "TownClocksLaw"
abbrev cL_law : ByteArray := code
def yL_law : MethodName := ⟨RL, "law", "([I)Z"⟩
def wsX0_init : List Cond := .code yX0_init cX0_init 4 none :: ([.methodLink RX0 3 objectInit, .instanceMethod objectInit, .code objectInit ⟨#[0xb1]⟩ 1 none, .fieldLink RX0 9 "TownClocks$Dial" "pipe" "LTownClocks$Pipe;", .fieldLink RX0 15 "TownClocks$Dial" "need" "I", .fieldLink RX0 19 "TownClocks$Dial" "sort" "I"] ++ wsX00)
def wsX3_airBehindLeaks : List Cond := .code yX3_airBehindLeaks cX3_airBehindLeaks 2 (some .int) :: ([.fieldLink RX3 19 "TownClocks$Pipe" "lossInAll" "I", .methodLink RX3 35 Lib.Math.max.name, .static Lib.Math.max.name, .initialized "java/lang/Math", .code Lib.Math.max.name Lib.Math.max.code 2 (some .int)] ++ wsX30)
def wsX3_air : List Cond := .code yX3_air cX3_air 3 (some .int) :: ([.fieldLink RX3 28 "TownClocks$Pipe" "leak" "I", .fieldLink RX3 15 "TownClocks$Pipe" "ahead" "LTownClocks$Pipe;", .methodLink RX3 31 yX3_airBehindLeaks, .instanceMethod yX3_airBehindLeaks, .selects RX3 yX3_airBehindLeaks yX3_airBehindLeaks, .initialized RX3, .code yX3_airBehindLeaks cX3_airBehindLeaks 2 (some .int), .fieldLink RX3 19 "TownClocks$Pipe" "lossInAll" "I", .methodLink RX3 35 Lib.Math.max.name, .static Lib.Math.max.name, .initialized "java/lang/Math", .code Lib.Math.max.name Lib.Math.max.code 2 (some .int)] ++ wsX30)
def wsX0_isPaidFor : List Cond := .code yX0_isPaidFor cX0_isPaidFor 2 (some .boolean) :: ([.fieldLink RX0 47 "TownClocks$Dial" "terms" "I", .fieldLink RX0 34 "TownClocks$Dial" "late" "I", .fieldLink RX0 50 "TownClocks$Dial" "below" "I"] ++ wsX00)
def wsX0_takePuff_r1 : List Cond := [Cond.fieldLink RX0 9 "TownClocks$Dial" "pipe" "LTownClocks$Pipe;", Cond.fieldLink RX0 15 "TownClocks$Dial" "need" "I", Cond.fieldLink RX0 28 "TownClocks$Dial" "puffsSinceKnown" "I", Cond.fieldLink RX0 31 "TownClocks$Dial" "missedRunning" "I", Cond.fieldLink RX0 34 "TownClocks$Dial" "late" "I", Cond.fieldLink RX0 41 "TownClocks$Dial" "owed" "I", Cond.fieldLink RX0 44 "TownClocks$Dial" "pays" "I", Cond.methodLink RX0 22 yX3_air, Cond.instanceMethod yX3_air, Cond.selects RX3 yX3_air yX3_air, Cond.initialized RX3, Cond.code yX3_air cX3_air 3 (some .int), Cond.fieldLink RX3 28 "TownClocks$Pipe" "leak" "I", Cond.fieldLink RX3 15 "TownClocks$Pipe" "ahead" "LTownClocks$Pipe;", Cond.methodLink RX3 31 yX3_airBehindLeaks, Cond.instanceMethod yX3_airBehindLeaks, Cond.selects RX3 yX3_airBehindLeaks yX3_airBehindLeaks, Cond.code yX3_airBehindLeaks cX3_airBehindLeaks 2 (some .int), Cond.fieldLink RX3 19 "TownClocks$Pipe" "lossInAll" "I", Cond.methodLink RX3 35 Lib.Math.max.name, Cond.static Lib.Math.max.name, Cond.initialized "java/lang/Math", Cond.code Lib.Math.max.name Lib.Math.max.code 2 (some .int), Cond.methodLink RX0 37 yX0_isPaidFor]
def wsX0_takePuff_r2 : List Cond := [Cond.instanceMethod yX0_isPaidFor, Cond.selects RX0 yX0_isPaidFor yX0_isPaidFor, Cond.initialized RX0, Cond.code yX0_isPaidFor cX0_isPaidFor 2 (some .boolean), Cond.fieldLink RX0 47 "TownClocks$Dial" "terms" "I", Cond.fieldLink RX0 50 "TownClocks$Dial" "below" "I"]
def wsX0_takePuff : List Cond := .code yX0_takePuff cX0_takePuff 2 (some .boolean) :: ((wsX0_takePuff_r1 ++ wsX0_takePuff_r2) ++ wsX00 ++ wsX30)
def wsX0_becomeKnown : List Cond := .code yX0_becomeKnown cX0_becomeKnown 1 none :: ([.fieldLink RX0 34 "TownClocks$Dial" "late" "I", .fieldLink RX0 53 "TownClocks$Dial" "knownLeast" "I", .fieldLink RX0 28 "TownClocks$Dial" "puffsSinceKnown" "I"] ++ wsX00)
def wsX0_putOn : List Cond := .code yX0_putOn cX0_putOn 2 none :: ([.fieldLink RX0 34 "TownClocks$Dial" "late" "I", .fieldLink RX0 53 "TownClocks$Dial" "knownLeast" "I"] ++ wsX00)
def wsX0_putRight : List Cond := .code yX0_putRight cX0_putRight 1 none :: ([.fieldLink RX0 34 "TownClocks$Dial" "late" "I", .fieldLink RX0 31 "TownClocks$Dial" "missedRunning" "I", .methodLink RX0 56 yX0_becomeKnown, .instanceMethod yX0_becomeKnown, .selects RX0 yX0_becomeKnown yX0_becomeKnown, .initialized RX0, .code yX0_becomeKnown cX0_becomeKnown 1 none, .fieldLink RX0 53 "TownClocks$Dial" "knownLeast" "I", .fieldLink RX0 28 "TownClocks$Dial" "puffsSinceKnown" "I"] ++ wsX00)
def wsX0_toldKind : List Cond := .code yX0_toldKind cX0_toldKind 1 (some .int) :: ([.fieldLink RX0 31 "TownClocks$Dial" "missedRunning" "I", .fieldLink RX0 19 "TownClocks$Dial" "sort" "I"] ++ wsX00)
def wsX0_begin : List Cond := .code yX0_begin cX0_begin 4 none :: ([.fieldLink RX0 47 "TownClocks$Dial" "terms" "I", .fieldLink RX0 50 "TownClocks$Dial" "below" "I", .fieldLink RX0 44 "TownClocks$Dial" "pays" "I", .fieldLink RX0 41 "TownClocks$Dial" "owed" "I"] ++ wsX00)
def wsX1_init : List Cond := .code yX1_init cX1_init 1 none :: ([.methodLink RX1 3 objectInit, .instanceMethod objectInit, .code objectInit ⟨#[0xb1]⟩ 1 none, .arrayClass .int, .fieldLink RX1 9 "TownClocks$Explanations" "pipe" "[I", .fieldLink RX1 15 "TownClocks$Explanations" "leastLeak" "[I", .fieldLink RX1 18 "TownClocks$Explanations" "likeAir" "[I"] ++ wsX10)
def wsJx4a65c_size_8abf5 : List Cond := .code yJx4a65c_size_8abf5 cJx4a65c_size_8abf5 1 (some .int) :: ([.fieldLink RJx4a65c 48 "java/util/ArrayList" "size" "I"] ++ wsJx4a65c0)
def wsJ3_checkIndex_8e157 : List Cond := .code yJ3_checkIndex_8e157 cJ3_checkIndex_8e157 3 (some .int) :: ([])
def wsJ15_checkIndex_7cf53 : List Cond := .code yJ15_checkIndex_7cf53 cJ15_checkIndex_7cf53 2 (some .int) :: ([.methodLink RJ15 105 yJ3_checkIndex_8e157, .static yJ3_checkIndex_8e157, .initialized RJ3, .code yJ3_checkIndex_8e157 cJ3_checkIndex_8e157 3 (some .int)])
def wsJx4a65c_elementData_915e3 : List Cond := .code yJx4a65c_elementData_915e3 cJx4a65c_elementData_915e3 2 (some (.object "java/lang/Object")) :: ([.fieldLink RJx4a65c 9 "java/util/ArrayList" "elementData" "[Ljava/lang/Object;"] ++ wsJx4a65c0)
def wsJx4a65c_get_915e3 : List Cond := .code yJx4a65c_get_915e3 cJx4a65c_get_915e3 2 (some (.object "java/lang/Object")) :: ([.fieldLink RJx4a65c 48 "java/util/ArrayList" "size" "I", .methodLink RJx4a65c 118 yJ15_checkIndex_7cf53, .static yJ15_checkIndex_7cf53, .initialized RJ15, .code yJ15_checkIndex_7cf53 cJ15_checkIndex_7cf53 2 (some .int), .methodLink RJ15 105 yJ3_checkIndex_8e157, .static yJ3_checkIndex_8e157, .initialized RJ3, .code yJ3_checkIndex_8e157 cJ3_checkIndex_8e157 3 (some .int), .methodLink RJx4a65c 123 yJx4a65c_elementData_915e3, .instanceMethod yJx4a65c_elementData_915e3, .selects RJx4a65c yJx4a65c_elementData_915e3 yJx4a65c_elementData_915e3, .initialized RJx4a65c, .code yJx4a65c_elementData_915e3 cJx4a65c_elementData_915e3 2 (some (.object "java/lang/Object")), .fieldLink RJx4a65c 9 "java/util/ArrayList" "elementData" "[Ljava/lang/Object;"] ++ wsJx4a65c0)
def wsX3_isFedThrough : List Cond := .code yX3_isFedThrough cX3_isFedThrough 2 (some .boolean) :: ([.fieldLink RX3 25 "TownClocks$Pipe" "wayBits" "I"] ++ wsX30)
def wsX1_leastLeakAt_r1 : List Cond := [Cond.classLink RX1 40 "TownClocks$Dial", Cond.fieldLink RX1 42 "TownClocks$Dial" "pipe" "LTownClocks$Pipe;", Cond.fieldLink RX1 51 "TownClocks$Dial" "need" "I", Cond.fieldLink RX1 58 "TownClocks$Dial" "marked" "Z", Cond.constant RX1 35 (-1000000), Cond.methodLink RX1 62 Lib.Math.max.name, Cond.static Lib.Math.max.name, Cond.initialized "java/lang/Math", Cond.code Lib.Math.max.name Lib.Math.max.code 2 (some .int), Cond.methodLink RX1 68 Lib.Math.min.name, Cond.static Lib.Math.min.name, Cond.code Lib.Math.min.name Lib.Math.min.code 2 (some .int), Cond.methodLink RX1 25 yJx4a65c_size_8abf5, Cond.instanceMethod yJx4a65c_size_8abf5, Cond.selects RJx4a65c yJx4a65c_size_8abf5 yJx4a65c_size_8abf5, Cond.initialized RJx4a65c, Cond.code yJx4a65c_size_8abf5 cJx4a65c_size_8abf5 1 (some .int), Cond.fieldLink RJx4a65c 48 "java/util/ArrayList" "size" "I", Cond.methodLink RX1 36 yJx4a65c_get_915e3, Cond.instanceMethod yJx4a65c_get_915e3, Cond.selects RJx4a65c yJx4a65c_get_915e3 yJx4a65c_get_915e3, Cond.code yJx4a65c_get_915e3 cJx4a65c_get_915e3 2 (some (.object "java/lang/Object")), Cond.methodLink RJx4a65c 118 yJ15_checkIndex_7cf53, Cond.static yJ15_checkIndex_7cf53]
def wsX1_leastLeakAt_r2 : List Cond := [Cond.initialized RJ15, Cond.code yJ15_checkIndex_7cf53 cJ15_checkIndex_7cf53 2 (some .int), Cond.methodLink RJ15 105 yJ3_checkIndex_8e157, Cond.static yJ3_checkIndex_8e157, Cond.initialized RJ3, Cond.code yJ3_checkIndex_8e157 cJ3_checkIndex_8e157 3 (some .int), Cond.methodLink RJx4a65c 123 yJx4a65c_elementData_915e3, Cond.instanceMethod yJx4a65c_elementData_915e3, Cond.selects RJx4a65c yJx4a65c_elementData_915e3 yJx4a65c_elementData_915e3, Cond.code yJx4a65c_elementData_915e3 cJx4a65c_elementData_915e3 2 (some (.object "java/lang/Object")), Cond.fieldLink RJx4a65c 9 "java/util/ArrayList" "elementData" "[Ljava/lang/Object;", Cond.methodLink RX1 45 yX3_airBehindLeaks, Cond.instanceMethod yX3_airBehindLeaks, Cond.selects RX3 yX3_airBehindLeaks yX3_airBehindLeaks, Cond.initialized RX3, Cond.code yX3_airBehindLeaks cX3_airBehindLeaks 2 (some .int), Cond.fieldLink RX3 19 "TownClocks$Pipe" "lossInAll" "I", Cond.methodLink RX3 35 Lib.Math.max.name, Cond.methodLink RX1 54 yX3_isFedThrough, Cond.instanceMethod yX3_isFedThrough, Cond.selects RX3 yX3_isFedThrough yX3_isFedThrough, Cond.code yX3_isFedThrough cX3_isFedThrough 2 (some .boolean), Cond.fieldLink RX3 25 "TownClocks$Pipe" "wayBits" "I"]
def wsX1_leastLeakAt : List Cond := .code yX1_leastLeakAt cX1_leastLeakAt 8 (some .int) :: ((wsX1_leastLeakAt_r1 ++ wsX1_leastLeakAt_r2) ++ wsX00 ++ wsJx4a65c0 ++ wsX30)
def wsX1_find_r1 : List Cond := [Cond.fieldLink RX1 21 "TownClocks$Explanations" "found" "I", Cond.constant RX1 35 (-1000000), Cond.fieldLink RX1 9 "TownClocks$Explanations" "pipe" "[I", Cond.fieldLink RX1 15 "TownClocks$Explanations" "leastLeak" "[I", Cond.methodLink RX1 25 yJx4a65c_size_8abf5, Cond.instanceMethod yJx4a65c_size_8abf5, Cond.selects RJx4a65c yJx4a65c_size_8abf5 yJx4a65c_size_8abf5, Cond.initialized RJx4a65c, Cond.code yJx4a65c_size_8abf5 cJx4a65c_size_8abf5 1 (some .int), Cond.fieldLink RJx4a65c 48 "java/util/ArrayList" "size" "I", Cond.methodLink RX1 31 yX1_leastLeakAt, Cond.static yX1_leastLeakAt, Cond.initialized RX1, Cond.code yX1_leastLeakAt cX1_leastLeakAt 8 (some .int), Cond.classLink RX1 40 "TownClocks$Dial", Cond.fieldLink RX1 42 "TownClocks$Dial" "pipe" "LTownClocks$Pipe;", Cond.fieldLink RX1 51 "TownClocks$Dial" "need" "I", Cond.fieldLink RX1 58 "TownClocks$Dial" "marked" "Z", Cond.methodLink RX1 62 Lib.Math.max.name, Cond.static Lib.Math.max.name, Cond.initialized "java/lang/Math", Cond.code Lib.Math.max.name Lib.Math.max.code 2 (some .int), Cond.methodLink RX1 68 Lib.Math.min.name, Cond.static Lib.Math.min.name]
def wsX1_find_r2 : List Cond := [Cond.code Lib.Math.min.name Lib.Math.min.code 2 (some .int), Cond.methodLink RX1 36 yJx4a65c_get_915e3, Cond.instanceMethod yJx4a65c_get_915e3, Cond.selects RJx4a65c yJx4a65c_get_915e3 yJx4a65c_get_915e3, Cond.code yJx4a65c_get_915e3 cJx4a65c_get_915e3 2 (some (.object "java/lang/Object")), Cond.methodLink RJx4a65c 118 yJ15_checkIndex_7cf53, Cond.static yJ15_checkIndex_7cf53, Cond.initialized RJ15, Cond.code yJ15_checkIndex_7cf53 cJ15_checkIndex_7cf53 2 (some .int), Cond.methodLink RJ15 105 yJ3_checkIndex_8e157, Cond.static yJ3_checkIndex_8e157, Cond.initialized RJ3, Cond.code yJ3_checkIndex_8e157 cJ3_checkIndex_8e157 3 (some .int), Cond.methodLink RJx4a65c 123 yJx4a65c_elementData_915e3, Cond.instanceMethod yJx4a65c_elementData_915e3, Cond.selects RJx4a65c yJx4a65c_elementData_915e3 yJx4a65c_elementData_915e3, Cond.code yJx4a65c_elementData_915e3 cJx4a65c_elementData_915e3 2 (some (.object "java/lang/Object")), Cond.fieldLink RJx4a65c 9 "java/util/ArrayList" "elementData" "[Ljava/lang/Object;", Cond.methodLink RX1 45 yX3_airBehindLeaks, Cond.instanceMethod yX3_airBehindLeaks, Cond.selects RX3 yX3_airBehindLeaks yX3_airBehindLeaks, Cond.initialized RX3, Cond.code yX3_airBehindLeaks cX3_airBehindLeaks 2 (some .int), Cond.fieldLink RX3 19 "TownClocks$Pipe" "lossInAll" "I"]
def wsX1_find_r3 : List Cond := [Cond.methodLink RX3 35 Lib.Math.max.name, Cond.methodLink RX1 54 yX3_isFedThrough, Cond.instanceMethod yX3_isFedThrough, Cond.selects RX3 yX3_isFedThrough yX3_isFedThrough, Cond.code yX3_isFedThrough cX3_isFedThrough 2 (some .boolean), Cond.fieldLink RX3 25 "TownClocks$Pipe" "wayBits" "I"]
def wsX1_find : List Cond := .code yX1_find cX1_find 5 none :: ((wsX1_find_r1 ++ (wsX1_find_r2 ++ wsX1_find_r3)) ++ wsX10 ++ wsJx4a65c0 ++ wsX00 ++ wsX30)
def wsJ7_fill_53178 : List Cond := .code yJ7_fill_53178 cJ7_fill_53178 4 none :: ([])
def wsX1_unlikePairs : List Cond := .code yX1_unlikePairs cX1_unlikePairs 5 (some .int) :: ([.fieldLink RX1 18 "TownClocks$Explanations" "likeAir" "[I", .fieldLink RX1 21 "TownClocks$Explanations" "found" "I", .fieldLink RX1 9 "TownClocks$Explanations" "pipe" "[I", .fieldLink RX1 15 "TownClocks$Explanations" "leastLeak" "[I", .methodLink RX1 71 yJ7_fill_53178, .static yJ7_fill_53178, .initialized RJ7, .code yJ7_fill_53178 cJ7_fill_53178 4 none, .methodLink RX1 54 yX3_isFedThrough, .instanceMethod yX3_isFedThrough, .selects RX3 yX3_isFedThrough yX3_isFedThrough, .initialized RX3, .code yX3_isFedThrough cX3_isFedThrough 2 (some .boolean), .fieldLink RX3 25 "TownClocks$Pipe" "wayBits" "I", .methodLink RX1 45 yX3_airBehindLeaks, .instanceMethod yX3_airBehindLeaks, .selects RX3 yX3_airBehindLeaks yX3_airBehindLeaks, .code yX3_airBehindLeaks cX3_airBehindLeaks 2 (some .int), .fieldLink RX3 19 "TownClocks$Pipe" "lossInAll" "I", .methodLink RX3 35 Lib.Math.max.name, .static Lib.Math.max.name, .initialized "java/lang/Math", .code Lib.Math.max.name Lib.Math.max.code 2 (some .int)] ++ wsX10 ++ wsX30)
def wsX2_init : List Cond := .code yX2_init cX2_init 1 none :: ([.methodLink RX2 1 objectInit, .instanceMethod objectInit, .code objectInit ⟨#[0xb1]⟩ 1 none])
def wsX2_tellMinute : List Cond := .code yX2_tellMinute cX2_tellMinute 1 none :: ([.fieldLink RX2 7 "TownClocks$Master" "minute" "I", .fieldLink RX2 13 "TownClocks$Master" "minutesSinceSighting" "J", .fieldLink RX2 17 "TownClocks$Master" "off" "J", .fieldLink RX2 20 "TownClocks$Master" "drift" "I"] ++ wsX20)
def wsX2_putRightByStars : List Cond := .code yX2_putRightByStars cX2_putRightByStars 3 (some .long) :: ([.fieldLink RX2 17 "TownClocks$Master" "off" "J", .fieldLink RX2 13 "TownClocks$Master" "minutesSinceSighting" "J", .fieldLink RX2 23 "TownClocks$Master" "sightings" "I"] ++ wsX20)
def wsX3_init : List Cond := .code yX3_init cX3_init 5 none :: ([.methodLink RX3 3 objectInit, .instanceMethod objectInit, .code objectInit ⟨#[0xb1]⟩ 1 none, .fieldLink RX3 9 "TownClocks$Pipe" "number" "I", .fieldLink RX3 15 "TownClocks$Pipe" "ahead" "LTownClocks$Pipe;", .fieldLink RX3 19 "TownClocks$Pipe" "lossInAll" "I", .fieldLink RX3 22 "TownClocks$Pipe" "lagInAll" "I", .fieldLink RX3 25 "TownClocks$Pipe" "wayBits" "I"] ++ wsX30)
def wsX4_init : List Cond := .code yX4_init cX4_init 2 none :: ([.methodLink RX4 3 objectInit, .instanceMethod objectInit, .code objectInit ⟨#[0xb1]⟩ 1 none, .arrayClass .int, .fieldLink RX4 9 "TownClocks$Reading" "waitingTerms" "[I", .fieldLink RX4 15 "TownClocks$Reading" "waitingBelow" "[I", .fieldLink RX4 18 "TownClocks$Reading" "waitingPays" "[I", .fieldLink RX4 21 "TownClocks$Reading" "tape" "LTownClocks$Tape;"] ++ wsX40)
def wsX5_rewind : List Cond := .code yX5_rewind cX5_rewind 1 none :: ([.fieldLink RX5 19 "TownClocks$Tape" "behind" "I"] ++ wsX50)
def wsX5_isBlank : List Cond := .code yX5_isBlank cX5_isBlank 1 (some .boolean) :: ([])
def wsX5_isLetter : List Cond := .code yX5_isLetter cX5_isLetter 1 (some .boolean) :: ([])
def wsX5_endOfLetters : List Cond := .code yX5_endOfLetters cX5_endOfLetters 2 (some .int) :: ([.fieldLink RX5 22 "TownClocks$Tape" "first" "I", .fieldLink RX5 15 "TownClocks$Tape" "length" "I", .fieldLink RX5 9 "TownClocks$Tape" "bytes" "[B", .methodLink RX5 32 yX5_isLetter, .static yX5_isLetter, .initialized RX5, .code yX5_isLetter cX5_isLetter 1 (some .boolean)] ++ wsX50)
def wsX5_isFigure : List Cond := .code yX5_isFigure cX5_isFigure 1 (some .boolean) :: ([])
def wsX5_endOfFigures : List Cond := .code yX5_endOfFigures cX5_endOfFigures 2 (some .int) :: ([.fieldLink RX5 22 "TownClocks$Tape" "first" "I", .fieldLink RX5 15 "TownClocks$Tape" "length" "I", .fieldLink RX5 9 "TownClocks$Tape" "bytes" "[B", .methodLink RX5 39 yX5_isFigure, .static yX5_isFigure, .initialized RX5, .code yX5_isFigure cX5_isFigure 1 (some .boolean)] ++ wsX50)
def wsX5_readToken : List Cond := .code yX5_readToken cX5_readToken 1 none :: ([.fieldLink RX5 19 "TownClocks$Tape" "behind" "I", .fieldLink RX5 22 "TownClocks$Tape" "first" "I", .fieldLink RX5 15 "TownClocks$Tape" "length" "I", .fieldLink RX5 9 "TownClocks$Tape" "bytes" "[B", .fieldLink RX5 29 "TownClocks$Tape" "sort" "I", .methodLink RX5 25 yX5_isBlank, .static yX5_isBlank, .initialized RX5, .code yX5_isBlank cX5_isBlank 1 (some .boolean), .methodLink RX5 32 yX5_isLetter, .static yX5_isLetter, .code yX5_isLetter cX5_isLetter 1 (some .boolean), .methodLink RX5 35 yX5_endOfLetters, .instanceMethod yX5_endOfLetters, .selects RX5 yX5_endOfLetters yX5_endOfLetters, .code yX5_endOfLetters cX5_endOfLetters 2 (some .int), .methodLink RX5 39 yX5_isFigure, .static yX5_isFigure, .code yX5_isFigure cX5_isFigure 1 (some .boolean), .methodLink RX5 42 yX5_endOfFigures, .instanceMethod yX5_endOfFigures, .selects RX5 yX5_endOfFigures yX5_endOfFigures, .code yX5_endOfFigures cX5_endOfFigures 2 (some .int)] ++ wsX50)
def wsJ0_coder_7d493 : List Cond := .code yJ0_coder_7d493 cJ0_coder_7d493 1 (some .byte) :: ([.fieldLink RJ0 38 "java/lang/String" "COMPACT_STRINGS" "Z", .fieldLink RJ0 15 "java/lang/String" "coder" "B"])
def wsJ0_length_8abf5 : List Cond := .code yJ0_length_8abf5 cJ0_length_8abf5 1 (some .int) :: ([.fieldLink RJ0 9 "java/lang/String" "value" "[B", .methodLink RJ0 335 yJ0_coder_7d493, .instanceMethod yJ0_coder_7d493, .selects RJ0 yJ0_coder_7d493 yJ0_coder_7d493, .initialized RJ0, .code yJ0_coder_7d493 cJ0_coder_7d493 1 (some .byte), .fieldLink RJ0 38 "java/lang/String" "COMPACT_STRINGS" "Z", .fieldLink RJ0 15 "java/lang/String" "coder" "B"])
def wsJ0_isLatin1_aae02 : List Cond := .code yJ0_isLatin1_aae02 cJ0_isLatin1_aae02 1 (some .boolean) :: ([.fieldLink RJ0 38 "java/lang/String" "COMPACT_STRINGS" "Z", .fieldLink RJ0 15 "java/lang/String" "coder" "B"])
def wsJ0_checkIndex_df160 : List Cond := .code yJ0_checkIndex_df160 cJ0_checkIndex_df160 2 none :: ([.fieldLink RJ0 1053 "jdk/internal/util/Preconditions" "SIOOBE_FORMATTER" "Ljava/util/function/BiFunction;", .methodLink RJ0 1059 yJ3_checkIndex_8e157, .static yJ3_checkIndex_8e157, .initialized RJ3, .code yJ3_checkIndex_8e157 cJ3_checkIndex_8e157 3 (some .int)])
def wsJ1_charAt_3b067 : List Cond := .code yJ1_charAt_3b067 cJ1_charAt_3b067 2 (some .char) :: ([.methodLink RJ1 9 yJ0_checkIndex_df160, .static yJ0_checkIndex_df160, .initialized RJ0, .code yJ0_checkIndex_df160 cJ0_checkIndex_df160 2 none, .fieldLink RJ0 1053 "jdk/internal/util/Preconditions" "SIOOBE_FORMATTER" "Ljava/util/function/BiFunction;", .methodLink RJ0 1059 yJ3_checkIndex_8e157, .static yJ3_checkIndex_8e157, .initialized RJ3, .code yJ3_checkIndex_8e157 cJ3_checkIndex_8e157 3 (some .int)])
def wsJ2_length_9d52b : List Cond := .code yJ2_length_9d52b cJ2_length_9d52b 1 (some .int) :: ([])
def wsJ2_checkIndex_2214a : List Cond := .code yJ2_checkIndex_2214a cJ2_checkIndex_2214a 2 none :: ([.methodLink RJ2 48 yJ2_length_9d52b, .static yJ2_length_9d52b, .initialized RJ2, .code yJ2_length_9d52b cJ2_length_9d52b 1 (some .int), .methodLink RJ2 414 yJ0_checkIndex_df160, .static yJ0_checkIndex_df160, .initialized RJ0, .code yJ0_checkIndex_df160 cJ0_checkIndex_df160 2 none, .fieldLink RJ0 1053 "jdk/internal/util/Preconditions" "SIOOBE_FORMATTER" "Ljava/util/function/BiFunction;", .methodLink RJ0 1059 yJ3_checkIndex_8e157, .static yJ3_checkIndex_8e157, .initialized RJ3, .code yJ3_checkIndex_8e157 cJ3_checkIndex_8e157 3 (some .int)])
def wsJ2_getChar_3b067 : List Cond := .code yJ2_getChar_3b067 cJ2_getChar_3b067 2 (some .char) :: ([.fieldLink RJ2 44 "java/lang/StringUTF16" "$assertionsDisabled" "Z", .fieldLink RJ2 59 "java/lang/StringUTF16" "HI_BYTE_SHIFT" "I", .fieldLink RJ2 63 "java/lang/StringUTF16" "LO_BYTE_SHIFT" "I", .methodLink RJ2 48 yJ2_length_9d52b, .static yJ2_length_9d52b, .initialized RJ2, .code yJ2_length_9d52b cJ2_length_9d52b 1 (some .int)])
def wsJ2_charAt_3b067 : List Cond := .code yJ2_charAt_3b067 cJ2_charAt_3b067 2 (some .char) :: ([.methodLink RJ2 67 yJ2_checkIndex_2214a, .static yJ2_checkIndex_2214a, .initialized RJ2, .code yJ2_checkIndex_2214a cJ2_checkIndex_2214a 2 none, .methodLink RJ2 48 yJ2_length_9d52b, .static yJ2_length_9d52b, .code yJ2_length_9d52b cJ2_length_9d52b 1 (some .int), .methodLink RJ2 414 yJ0_checkIndex_df160, .static yJ0_checkIndex_df160, .initialized RJ0, .code yJ0_checkIndex_df160 cJ0_checkIndex_df160 2 none, .fieldLink RJ0 1053 "jdk/internal/util/Preconditions" "SIOOBE_FORMATTER" "Ljava/util/function/BiFunction;", .methodLink RJ0 1059 yJ3_checkIndex_8e157, .static yJ3_checkIndex_8e157, .initialized RJ3, .code yJ3_checkIndex_8e157 cJ3_checkIndex_8e157 3 (some .int), .methodLink RJ2 71 yJ2_getChar_3b067, .static yJ2_getChar_3b067, .code yJ2_getChar_3b067 cJ2_getChar_3b067 2 (some .char), .fieldLink RJ2 44 "java/lang/StringUTF16" "$assertionsDisabled" "Z", .fieldLink RJ2 59 "java/lang/StringUTF16" "HI_BYTE_SHIFT" "I", .fieldLink RJ2 63 "java/lang/StringUTF16" "LO_BYTE_SHIFT" "I"])
def wsJ0_charAt_5068e_r1 : List Cond := [Cond.fieldLink RJ0 9 "java/lang/String" "value" "[B", Cond.methodLink RJ0 492 yJ0_isLatin1_aae02, Cond.instanceMethod yJ0_isLatin1_aae02, Cond.selects RJ0 yJ0_isLatin1_aae02 yJ0_isLatin1_aae02, Cond.initialized RJ0, Cond.code yJ0_isLatin1_aae02 cJ0_isLatin1_aae02 1 (some .boolean), Cond.fieldLink RJ0 38 "java/lang/String" "COMPACT_STRINGS" "Z", Cond.fieldLink RJ0 15 "java/lang/String" "coder" "B", Cond.methodLink RJ0 495 yJ1_charAt_3b067, Cond.static yJ1_charAt_3b067, Cond.initialized RJ1, Cond.code yJ1_charAt_3b067 cJ1_charAt_3b067 2 (some .char), Cond.methodLink RJ1 9 yJ0_checkIndex_df160, Cond.static yJ0_checkIndex_df160, Cond.code yJ0_checkIndex_df160 cJ0_checkIndex_df160 2 none, Cond.fieldLink RJ0 1053 "jdk/internal/util/Preconditions" "SIOOBE_FORMATTER" "Ljava/util/function/BiFunction;", Cond.methodLink RJ0 1059 yJ3_checkIndex_8e157, Cond.static yJ3_checkIndex_8e157, Cond.initialized RJ3, Cond.code yJ3_checkIndex_8e157 cJ3_checkIndex_8e157 3 (some .int), Cond.methodLink RJ0 498 yJ2_charAt_3b067, Cond.static yJ2_charAt_3b067, Cond.initialized RJ2, Cond.code yJ2_charAt_3b067 cJ2_charAt_3b067 2 (some .char)]
def wsJ0_charAt_5068e_r2 : List Cond := [Cond.methodLink RJ2 67 yJ2_checkIndex_2214a, Cond.static yJ2_checkIndex_2214a, Cond.code yJ2_checkIndex_2214a cJ2_checkIndex_2214a 2 none, Cond.methodLink RJ2 48 yJ2_length_9d52b, Cond.static yJ2_length_9d52b, Cond.code yJ2_length_9d52b cJ2_length_9d52b 1 (some .int), Cond.methodLink RJ2 414 yJ0_checkIndex_df160, Cond.methodLink RJ2 71 yJ2_getChar_3b067, Cond.static yJ2_getChar_3b067, Cond.code yJ2_getChar_3b067 cJ2_getChar_3b067 2 (some .char), Cond.fieldLink RJ2 44 "java/lang/StringUTF16" "$assertionsDisabled" "Z", Cond.fieldLink RJ2 59 "java/lang/StringUTF16" "HI_BYTE_SHIFT" "I", Cond.fieldLink RJ2 63 "java/lang/StringUTF16" "LO_BYTE_SHIFT" "I"]
def wsJ0_charAt_5068e : List Cond := .code yJ0_charAt_5068e cJ0_charAt_5068e 2 (some .char) :: ((wsJ0_charAt_5068e_r1 ++ wsJ0_charAt_5068e_r2))
def wsX5_isName_r1 : List Cond := [Cond.fieldLink RX5 29 "TownClocks$Tape" "sort" "I", Cond.fieldLink RX5 19 "TownClocks$Tape" "behind" "I", Cond.fieldLink RX5 22 "TownClocks$Tape" "first" "I", Cond.fieldLink RX5 9 "TownClocks$Tape" "bytes" "[B", Cond.methodLink RX5 45 yJ0_length_8abf5, Cond.instanceMethod yJ0_length_8abf5, Cond.selects RJ0 yJ0_length_8abf5 yJ0_length_8abf5, Cond.initialized RJ0, Cond.code yJ0_length_8abf5 cJ0_length_8abf5 1 (some .int), Cond.fieldLink RJ0 9 "java/lang/String" "value" "[B", Cond.methodLink RJ0 335 yJ0_coder_7d493, Cond.instanceMethod yJ0_coder_7d493, Cond.selects RJ0 yJ0_coder_7d493 yJ0_coder_7d493, Cond.code yJ0_coder_7d493 cJ0_coder_7d493 1 (some .byte), Cond.fieldLink RJ0 38 "java/lang/String" "COMPACT_STRINGS" "Z", Cond.fieldLink RJ0 15 "java/lang/String" "coder" "B", Cond.methodLink RX5 49 yJ0_charAt_5068e, Cond.instanceMethod yJ0_charAt_5068e, Cond.selects RJ0 yJ0_charAt_5068e yJ0_charAt_5068e, Cond.code yJ0_charAt_5068e cJ0_charAt_5068e 2 (some .char), Cond.methodLink RJ0 492 yJ0_isLatin1_aae02, Cond.instanceMethod yJ0_isLatin1_aae02, Cond.selects RJ0 yJ0_isLatin1_aae02 yJ0_isLatin1_aae02, Cond.code yJ0_isLatin1_aae02 cJ0_isLatin1_aae02 1 (some .boolean)]
def wsX5_isName_r2 : List Cond := [Cond.methodLink RJ0 495 yJ1_charAt_3b067, Cond.static yJ1_charAt_3b067, Cond.initialized RJ1, Cond.code yJ1_charAt_3b067 cJ1_charAt_3b067 2 (some .char), Cond.methodLink RJ1 9 yJ0_checkIndex_df160, Cond.static yJ0_checkIndex_df160, Cond.code yJ0_checkIndex_df160 cJ0_checkIndex_df160 2 none, Cond.fieldLink RJ0 1053 "jdk/internal/util/Preconditions" "SIOOBE_FORMATTER" "Ljava/util/function/BiFunction;", Cond.methodLink RJ0 1059 yJ3_checkIndex_8e157, Cond.static yJ3_checkIndex_8e157, Cond.initialized RJ3, Cond.code yJ3_checkIndex_8e157 cJ3_checkIndex_8e157 3 (some .int), Cond.methodLink RJ0 498 yJ2_charAt_3b067, Cond.static yJ2_charAt_3b067, Cond.initialized RJ2, Cond.code yJ2_charAt_3b067 cJ2_charAt_3b067 2 (some .char), Cond.methodLink RJ2 67 yJ2_checkIndex_2214a, Cond.static yJ2_checkIndex_2214a, Cond.code yJ2_checkIndex_2214a cJ2_checkIndex_2214a 2 none, Cond.methodLink RJ2 48 yJ2_length_9d52b, Cond.static yJ2_length_9d52b, Cond.code yJ2_length_9d52b cJ2_length_9d52b 1 (some .int), Cond.methodLink RJ2 414 yJ0_checkIndex_df160, Cond.methodLink RJ2 71 yJ2_getChar_3b067]
def wsX5_isName_r3 : List Cond := [Cond.static yJ2_getChar_3b067, Cond.code yJ2_getChar_3b067 cJ2_getChar_3b067 2 (some .char), Cond.fieldLink RJ2 44 "java/lang/StringUTF16" "$assertionsDisabled" "Z", Cond.fieldLink RJ2 59 "java/lang/StringUTF16" "HI_BYTE_SHIFT" "I", Cond.fieldLink RJ2 63 "java/lang/StringUTF16" "LO_BYTE_SHIFT" "I"]
def wsX5_isName : List Cond := .code yX5_isName cX5_isName 3 (some .boolean) :: ((wsX5_isName_r1 ++ (wsX5_isName_r2 ++ wsX5_isName_r3)) ++ wsX50)
def wsX4_refuse : List Cond := .code yX4_refuse cX4_refuse 2 (some .boolean) :: ([.fieldLink RX4 83 "TownClocks$Reading" "latestFault" "I", .fieldLink RX4 21 "TownClocks$Reading" "tape" "LTownClocks$Tape;", .fieldLink RX4 86 "TownClocks$Tape" "first" "I", .fieldLink RX4 89 "TownClocks$Reading" "faultPlace" "I"] ++ wsX40 ++ wsX50)
def wsX4_readNumber_r1 : List Cond := [Cond.fieldLink RX4 21 "TownClocks$Reading" "tape" "LTownClocks$Tape;", Cond.fieldLink RX4 43 "TownClocks$Tape" "sort" "I", Cond.methodLink RX4 40 yX5_readToken, Cond.instanceMethod yX5_readToken, Cond.selects RX5 yX5_readToken yX5_readToken, Cond.initialized RX5, Cond.code yX5_readToken cX5_readToken 1 none, Cond.fieldLink RX5 19 "TownClocks$Tape" "behind" "I", Cond.fieldLink RX5 22 "TownClocks$Tape" "first" "I", Cond.fieldLink RX5 15 "TownClocks$Tape" "length" "I", Cond.fieldLink RX5 9 "TownClocks$Tape" "bytes" "[B", Cond.fieldLink RX5 29 "TownClocks$Tape" "sort" "I", Cond.methodLink RX5 25 yX5_isBlank, Cond.static yX5_isBlank, Cond.code yX5_isBlank cX5_isBlank 1 (some .boolean), Cond.methodLink RX5 32 yX5_isLetter, Cond.static yX5_isLetter, Cond.code yX5_isLetter cX5_isLetter 1 (some .boolean), Cond.methodLink RX5 35 yX5_endOfLetters, Cond.instanceMethod yX5_endOfLetters, Cond.selects RX5 yX5_endOfLetters yX5_endOfLetters, Cond.code yX5_endOfLetters cX5_endOfLetters 2 (some .int), Cond.methodLink RX5 39 yX5_isFigure, Cond.static yX5_isFigure]
def wsX4_readNumber_r2 : List Cond := [Cond.code yX5_isFigure cX5_isFigure 1 (some .boolean), Cond.methodLink RX5 42 yX5_endOfFigures, Cond.instanceMethod yX5_endOfFigures, Cond.selects RX5 yX5_endOfFigures yX5_endOfFigures, Cond.code yX5_endOfFigures cX5_endOfFigures 2 (some .int), Cond.methodLink RX4 56 yX4_refuse, Cond.instanceMethod yX4_refuse, Cond.selects RX4 yX4_refuse yX4_refuse, Cond.initialized RX4, Cond.code yX4_refuse cX4_refuse 2 (some .boolean), Cond.fieldLink RX4 83 "TownClocks$Reading" "latestFault" "I", Cond.fieldLink RX4 86 "TownClocks$Tape" "first" "I", Cond.fieldLink RX4 89 "TownClocks$Reading" "faultPlace" "I"]
def wsX4_readNumber : List Cond := .code yX4_readNumber cX4_readNumber 1 (some .boolean) :: ((wsX4_readNumber_r1 ++ wsX4_readNumber_r2) ++ wsX40 ++ wsX50)
def wsX5_numberValue : List Cond := .code yX5_numberValue cX5_numberValue 3 (some .int) :: ([.fieldLink RX5 22 "TownClocks$Tape" "first" "I", .fieldLink RX5 19 "TownClocks$Tape" "behind" "I", .fieldLink RX5 9 "TownClocks$Tape" "bytes" "[B"] ++ wsX50)
def wsX4_namedTerms_r1 : List Cond := [Cond.fieldLink RX4 21 "TownClocks$Reading" "tape" "LTownClocks$Tape;", Cond.methodLink RX4 52 yX5_isName, Cond.instanceMethod yX5_isName, Cond.selects RX5 yX5_isName yX5_isName, Cond.initialized RX5, Cond.code yX5_isName cX5_isName 3 (some .boolean), Cond.fieldLink RX5 29 "TownClocks$Tape" "sort" "I", Cond.fieldLink RX5 19 "TownClocks$Tape" "behind" "I", Cond.fieldLink RX5 22 "TownClocks$Tape" "first" "I", Cond.fieldLink RX5 9 "TownClocks$Tape" "bytes" "[B", Cond.methodLink RX5 45 yJ0_length_8abf5, Cond.instanceMethod yJ0_length_8abf5, Cond.selects RJ0 yJ0_length_8abf5 yJ0_length_8abf5, Cond.initialized RJ0, Cond.code yJ0_length_8abf5 cJ0_length_8abf5 1 (some .int), Cond.fieldLink RJ0 9 "java/lang/String" "value" "[B", Cond.methodLink RJ0 335 yJ0_coder_7d493, Cond.instanceMethod yJ0_coder_7d493, Cond.selects RJ0 yJ0_coder_7d493 yJ0_coder_7d493, Cond.code yJ0_coder_7d493 cJ0_coder_7d493 1 (some .byte), Cond.fieldLink RJ0 38 "java/lang/String" "COMPACT_STRINGS" "Z", Cond.fieldLink RJ0 15 "java/lang/String" "coder" "B", Cond.methodLink RX5 49 yJ0_charAt_5068e, Cond.instanceMethod yJ0_charAt_5068e]
def wsX4_namedTerms_r2 : List Cond := [Cond.selects RJ0 yJ0_charAt_5068e yJ0_charAt_5068e, Cond.code yJ0_charAt_5068e cJ0_charAt_5068e 2 (some .char), Cond.methodLink RJ0 492 yJ0_isLatin1_aae02, Cond.instanceMethod yJ0_isLatin1_aae02, Cond.selects RJ0 yJ0_isLatin1_aae02 yJ0_isLatin1_aae02, Cond.code yJ0_isLatin1_aae02 cJ0_isLatin1_aae02 1 (some .boolean), Cond.methodLink RJ0 495 yJ1_charAt_3b067, Cond.static yJ1_charAt_3b067, Cond.initialized RJ1, Cond.code yJ1_charAt_3b067 cJ1_charAt_3b067 2 (some .char), Cond.methodLink RJ1 9 yJ0_checkIndex_df160, Cond.static yJ0_checkIndex_df160, Cond.code yJ0_checkIndex_df160 cJ0_checkIndex_df160 2 none, Cond.fieldLink RJ0 1053 "jdk/internal/util/Preconditions" "SIOOBE_FORMATTER" "Ljava/util/function/BiFunction;", Cond.methodLink RJ0 1059 yJ3_checkIndex_8e157, Cond.static yJ3_checkIndex_8e157, Cond.initialized RJ3, Cond.code yJ3_checkIndex_8e157 cJ3_checkIndex_8e157 3 (some .int), Cond.methodLink RJ0 498 yJ2_charAt_3b067, Cond.static yJ2_charAt_3b067, Cond.initialized RJ2, Cond.code yJ2_charAt_3b067 cJ2_charAt_3b067 2 (some .char), Cond.methodLink RJ2 67 yJ2_checkIndex_2214a, Cond.static yJ2_checkIndex_2214a]
def wsX4_namedTerms_r3 : List Cond := [Cond.code yJ2_checkIndex_2214a cJ2_checkIndex_2214a 2 none, Cond.methodLink RJ2 48 yJ2_length_9d52b, Cond.static yJ2_length_9d52b, Cond.code yJ2_length_9d52b cJ2_length_9d52b 1 (some .int), Cond.methodLink RJ2 414 yJ0_checkIndex_df160, Cond.methodLink RJ2 71 yJ2_getChar_3b067, Cond.static yJ2_getChar_3b067, Cond.code yJ2_getChar_3b067 cJ2_getChar_3b067 2 (some .char), Cond.fieldLink RJ2 44 "java/lang/StringUTF16" "$assertionsDisabled" "Z", Cond.fieldLink RJ2 59 "java/lang/StringUTF16" "HI_BYTE_SHIFT" "I", Cond.fieldLink RJ2 63 "java/lang/StringUTF16" "LO_BYTE_SHIFT" "I"]
def wsX4_namedTerms : List Cond := .code yX4_namedTerms cX4_namedTerms 1 (some .int) :: ((wsX4_namedTerms_r1 ++ (wsX4_namedTerms_r2 ++ wsX4_namedTerms_r3)) ++ wsX40 ++ wsX50)
def wsX5_isSign : List Cond := .code yX5_isSign cX5_isSign 2 (some .boolean) :: ([.fieldLink RX5 29 "TownClocks$Tape" "sort" "I", .fieldLink RX5 9 "TownClocks$Tape" "bytes" "[B", .fieldLink RX5 22 "TownClocks$Tape" "first" "I"] ++ wsX50)
def wsX4_readSign_r1 : List Cond := [Cond.fieldLink RX4 21 "TownClocks$Reading" "tape" "LTownClocks$Tape;", Cond.methodLink RX4 40 yX5_readToken, Cond.instanceMethod yX5_readToken, Cond.selects RX5 yX5_readToken yX5_readToken, Cond.initialized RX5, Cond.code yX5_readToken cX5_readToken 1 none, Cond.fieldLink RX5 19 "TownClocks$Tape" "behind" "I", Cond.fieldLink RX5 22 "TownClocks$Tape" "first" "I", Cond.fieldLink RX5 15 "TownClocks$Tape" "length" "I", Cond.fieldLink RX5 9 "TownClocks$Tape" "bytes" "[B", Cond.fieldLink RX5 29 "TownClocks$Tape" "sort" "I", Cond.methodLink RX5 25 yX5_isBlank, Cond.static yX5_isBlank, Cond.code yX5_isBlank cX5_isBlank 1 (some .boolean), Cond.methodLink RX5 32 yX5_isLetter, Cond.static yX5_isLetter, Cond.code yX5_isLetter cX5_isLetter 1 (some .boolean), Cond.methodLink RX5 35 yX5_endOfLetters, Cond.instanceMethod yX5_endOfLetters, Cond.selects RX5 yX5_endOfLetters yX5_endOfLetters, Cond.code yX5_endOfLetters cX5_endOfLetters 2 (some .int), Cond.methodLink RX5 39 yX5_isFigure, Cond.static yX5_isFigure, Cond.code yX5_isFigure cX5_isFigure 1 (some .boolean)]
def wsX4_readSign_r2 : List Cond := [Cond.methodLink RX5 42 yX5_endOfFigures, Cond.instanceMethod yX5_endOfFigures, Cond.selects RX5 yX5_endOfFigures yX5_endOfFigures, Cond.code yX5_endOfFigures cX5_endOfFigures 2 (some .int), Cond.methodLink RX4 80 yX5_isSign, Cond.instanceMethod yX5_isSign, Cond.selects RX5 yX5_isSign yX5_isSign, Cond.code yX5_isSign cX5_isSign 2 (some .boolean), Cond.methodLink RX4 56 yX4_refuse, Cond.instanceMethod yX4_refuse, Cond.selects RX4 yX4_refuse yX4_refuse, Cond.initialized RX4, Cond.code yX4_refuse cX4_refuse 2 (some .boolean), Cond.fieldLink RX4 83 "TownClocks$Reading" "latestFault" "I", Cond.fieldLink RX4 86 "TownClocks$Tape" "first" "I", Cond.fieldLink RX4 89 "TownClocks$Reading" "faultPlace" "I"]
def wsX4_readSign : List Cond := .code yX4_readSign cX4_readSign 2 (some .boolean) :: ((wsX4_readSign_r1 ++ wsX4_readSign_r2) ++ wsX40 ++ wsX50)
def wsX4_readContract_r1 : List Cond := [Cond.fieldLink RX4 21 "TownClocks$Reading" "tape" "LTownClocks$Tape;", Cond.fieldLink RX4 9 "TownClocks$Reading" "waitingTerms" "[I", Cond.fieldLink RX4 15 "TownClocks$Reading" "waitingBelow" "[I", Cond.fieldLink RX4 18 "TownClocks$Reading" "waitingPays" "[I", Cond.methodLink RX4 52 yX5_isName, Cond.instanceMethod yX5_isName, Cond.selects RX5 yX5_isName yX5_isName, Cond.initialized RX5, Cond.code yX5_isName cX5_isName 3 (some .boolean), Cond.fieldLink RX5 29 "TownClocks$Tape" "sort" "I", Cond.fieldLink RX5 19 "TownClocks$Tape" "behind" "I", Cond.fieldLink RX5 22 "TownClocks$Tape" "first" "I", Cond.fieldLink RX5 9 "TownClocks$Tape" "bytes" "[B", Cond.methodLink RX5 45 yJ0_length_8abf5, Cond.instanceMethod yJ0_length_8abf5, Cond.selects RJ0 yJ0_length_8abf5 yJ0_length_8abf5, Cond.initialized RJ0, Cond.code yJ0_length_8abf5 cJ0_length_8abf5 1 (some .int), Cond.fieldLink RJ0 9 "java/lang/String" "value" "[B", Cond.methodLink RJ0 335 yJ0_coder_7d493, Cond.instanceMethod yJ0_coder_7d493, Cond.selects RJ0 yJ0_coder_7d493 yJ0_coder_7d493, Cond.code yJ0_coder_7d493 cJ0_coder_7d493 1 (some .byte), Cond.fieldLink RJ0 38 "java/lang/String" "COMPACT_STRINGS" "Z"]
def wsX4_readContract_r2 : List Cond := [Cond.fieldLink RJ0 15 "java/lang/String" "coder" "B", Cond.methodLink RX5 49 yJ0_charAt_5068e, Cond.instanceMethod yJ0_charAt_5068e, Cond.selects RJ0 yJ0_charAt_5068e yJ0_charAt_5068e, Cond.code yJ0_charAt_5068e cJ0_charAt_5068e 2 (some .char), Cond.methodLink RJ0 492 yJ0_isLatin1_aae02, Cond.instanceMethod yJ0_isLatin1_aae02, Cond.selects RJ0 yJ0_isLatin1_aae02 yJ0_isLatin1_aae02, Cond.code yJ0_isLatin1_aae02 cJ0_isLatin1_aae02 1 (some .boolean), Cond.methodLink RJ0 495 yJ1_charAt_3b067, Cond.static yJ1_charAt_3b067, Cond.initialized RJ1, Cond.code yJ1_charAt_3b067 cJ1_charAt_3b067 2 (some .char), Cond.methodLink RJ1 9 yJ0_checkIndex_df160, Cond.static yJ0_checkIndex_df160, Cond.code yJ0_checkIndex_df160 cJ0_checkIndex_df160 2 none, Cond.fieldLink RJ0 1053 "jdk/internal/util/Preconditions" "SIOOBE_FORMATTER" "Ljava/util/function/BiFunction;", Cond.methodLink RJ0 1059 yJ3_checkIndex_8e157, Cond.static yJ3_checkIndex_8e157, Cond.initialized RJ3, Cond.code yJ3_checkIndex_8e157 cJ3_checkIndex_8e157 3 (some .int), Cond.methodLink RJ0 498 yJ2_charAt_3b067, Cond.static yJ2_charAt_3b067, Cond.initialized RJ2]
def wsX4_readContract_r3 : List Cond := [Cond.code yJ2_charAt_3b067 cJ2_charAt_3b067 2 (some .char), Cond.methodLink RJ2 67 yJ2_checkIndex_2214a, Cond.static yJ2_checkIndex_2214a, Cond.code yJ2_checkIndex_2214a cJ2_checkIndex_2214a 2 none, Cond.methodLink RJ2 48 yJ2_length_9d52b, Cond.static yJ2_length_9d52b, Cond.code yJ2_length_9d52b cJ2_length_9d52b 1 (some .int), Cond.methodLink RJ2 414 yJ0_checkIndex_df160, Cond.methodLink RJ2 71 yJ2_getChar_3b067, Cond.static yJ2_getChar_3b067, Cond.code yJ2_getChar_3b067 cJ2_getChar_3b067 2 (some .char), Cond.fieldLink RJ2 44 "java/lang/StringUTF16" "$assertionsDisabled" "Z", Cond.fieldLink RJ2 59 "java/lang/StringUTF16" "HI_BYTE_SHIFT" "I", Cond.fieldLink RJ2 63 "java/lang/StringUTF16" "LO_BYTE_SHIFT" "I", Cond.methodLink RX4 56 yX4_refuse, Cond.instanceMethod yX4_refuse, Cond.selects RX4 yX4_refuse yX4_refuse, Cond.initialized RX4, Cond.code yX4_refuse cX4_refuse 2 (some .boolean), Cond.fieldLink RX4 83 "TownClocks$Reading" "latestFault" "I", Cond.fieldLink RX4 86 "TownClocks$Tape" "first" "I", Cond.fieldLink RX4 89 "TownClocks$Reading" "faultPlace" "I", Cond.methodLink RX4 59 yX4_readNumber, Cond.instanceMethod yX4_readNumber]
def wsX4_readContract_r4 : List Cond := [Cond.selects RX4 yX4_readNumber yX4_readNumber, Cond.code yX4_readNumber cX4_readNumber 1 (some .boolean), Cond.fieldLink RX4 43 "TownClocks$Tape" "sort" "I", Cond.methodLink RX4 40 yX5_readToken, Cond.instanceMethod yX5_readToken, Cond.selects RX5 yX5_readToken yX5_readToken, Cond.code yX5_readToken cX5_readToken 1 none, Cond.fieldLink RX5 15 "TownClocks$Tape" "length" "I", Cond.methodLink RX5 25 yX5_isBlank, Cond.static yX5_isBlank, Cond.code yX5_isBlank cX5_isBlank 1 (some .boolean), Cond.methodLink RX5 32 yX5_isLetter, Cond.static yX5_isLetter, Cond.code yX5_isLetter cX5_isLetter 1 (some .boolean), Cond.methodLink RX5 35 yX5_endOfLetters, Cond.instanceMethod yX5_endOfLetters, Cond.selects RX5 yX5_endOfLetters yX5_endOfLetters, Cond.code yX5_endOfLetters cX5_endOfLetters 2 (some .int), Cond.methodLink RX5 39 yX5_isFigure, Cond.static yX5_isFigure, Cond.code yX5_isFigure cX5_isFigure 1 (some .boolean), Cond.methodLink RX5 42 yX5_endOfFigures, Cond.instanceMethod yX5_endOfFigures, Cond.selects RX5 yX5_endOfFigures yX5_endOfFigures]
def wsX4_readContract_r5 : List Cond := [Cond.code yX5_endOfFigures cX5_endOfFigures 2 (some .int), Cond.methodLink RX4 63 yX5_numberValue, Cond.instanceMethod yX5_numberValue, Cond.selects RX5 yX5_numberValue yX5_numberValue, Cond.code yX5_numberValue cX5_numberValue 3 (some .int), Cond.methodLink RX4 67 yX4_namedTerms, Cond.instanceMethod yX4_namedTerms, Cond.selects RX4 yX4_namedTerms yX4_namedTerms, Cond.code yX4_namedTerms cX4_namedTerms 1 (some .int), Cond.methodLink RX4 70 yX4_readSign, Cond.instanceMethod yX4_readSign, Cond.selects RX4 yX4_readSign yX4_readSign, Cond.code yX4_readSign cX4_readSign 2 (some .boolean), Cond.methodLink RX4 80 yX5_isSign, Cond.instanceMethod yX5_isSign, Cond.selects RX5 yX5_isSign yX5_isSign, Cond.code yX5_isSign cX5_isSign 2 (some .boolean)]
def wsX4_readContract : List Cond := .code yX4_readContract cX4_readContract 6 (some .boolean) :: ((wsX4_readContract_r1 ++ (wsX4_readContract_r2 ++ (wsX4_readContract_r3 ++ (wsX4_readContract_r4 ++ wsX4_readContract_r5)))) ++ wsX40 ++ wsX50)
def wsX4_readTape_r1 : List Cond := [Cond.fieldLink RX4 9 "TownClocks$Reading" "waitingTerms" "[I", Cond.fieldLink RX4 31 "TownClocks$Reading" "contractsTold" "I", Cond.fieldLink RX4 21 "TownClocks$Reading" "tape" "LTownClocks$Tape;", Cond.fieldLink RX4 43 "TownClocks$Tape" "sort" "I", Cond.methodLink RX4 25 yJ7_fill_53178, Cond.static yJ7_fill_53178, Cond.initialized RJ7, Cond.code yJ7_fill_53178 cJ7_fill_53178 4 none, Cond.methodLink RX4 35 yX5_rewind, Cond.instanceMethod yX5_rewind, Cond.selects RX5 yX5_rewind yX5_rewind, Cond.initialized RX5, Cond.code yX5_rewind cX5_rewind 1 none, Cond.fieldLink RX5 19 "TownClocks$Tape" "behind" "I", Cond.methodLink RX4 40 yX5_readToken, Cond.instanceMethod yX5_readToken, Cond.selects RX5 yX5_readToken yX5_readToken, Cond.code yX5_readToken cX5_readToken 1 none, Cond.fieldLink RX5 22 "TownClocks$Tape" "first" "I", Cond.fieldLink RX5 15 "TownClocks$Tape" "length" "I", Cond.fieldLink RX5 9 "TownClocks$Tape" "bytes" "[B", Cond.fieldLink RX5 29 "TownClocks$Tape" "sort" "I", Cond.methodLink RX5 25 yX5_isBlank, Cond.static yX5_isBlank]
def wsX4_readTape_r2 : List Cond := [Cond.code yX5_isBlank cX5_isBlank 1 (some .boolean), Cond.methodLink RX5 32 yX5_isLetter, Cond.static yX5_isLetter, Cond.code yX5_isLetter cX5_isLetter 1 (some .boolean), Cond.methodLink RX5 35 yX5_endOfLetters, Cond.instanceMethod yX5_endOfLetters, Cond.selects RX5 yX5_endOfLetters yX5_endOfLetters, Cond.code yX5_endOfLetters cX5_endOfLetters 2 (some .int), Cond.methodLink RX5 39 yX5_isFigure, Cond.static yX5_isFigure, Cond.code yX5_isFigure cX5_isFigure 1 (some .boolean), Cond.methodLink RX5 42 yX5_endOfFigures, Cond.instanceMethod yX5_endOfFigures, Cond.selects RX5 yX5_endOfFigures yX5_endOfFigures, Cond.code yX5_endOfFigures cX5_endOfFigures 2 (some .int), Cond.methodLink RX4 46 yX4_readContract, Cond.instanceMethod yX4_readContract, Cond.selects RX4 yX4_readContract yX4_readContract, Cond.initialized RX4, Cond.code yX4_readContract cX4_readContract 6 (some .boolean), Cond.fieldLink RX4 15 "TownClocks$Reading" "waitingBelow" "[I", Cond.fieldLink RX4 18 "TownClocks$Reading" "waitingPays" "[I", Cond.methodLink RX4 52 yX5_isName, Cond.instanceMethod yX5_isName]
def wsX4_readTape_r3 : List Cond := [Cond.selects RX5 yX5_isName yX5_isName, Cond.code yX5_isName cX5_isName 3 (some .boolean), Cond.methodLink RX5 45 yJ0_length_8abf5, Cond.instanceMethod yJ0_length_8abf5, Cond.selects RJ0 yJ0_length_8abf5 yJ0_length_8abf5, Cond.initialized RJ0, Cond.code yJ0_length_8abf5 cJ0_length_8abf5 1 (some .int), Cond.fieldLink RJ0 9 "java/lang/String" "value" "[B", Cond.methodLink RJ0 335 yJ0_coder_7d493, Cond.instanceMethod yJ0_coder_7d493, Cond.selects RJ0 yJ0_coder_7d493 yJ0_coder_7d493, Cond.code yJ0_coder_7d493 cJ0_coder_7d493 1 (some .byte), Cond.fieldLink RJ0 38 "java/lang/String" "COMPACT_STRINGS" "Z", Cond.fieldLink RJ0 15 "java/lang/String" "coder" "B", Cond.methodLink RX5 49 yJ0_charAt_5068e, Cond.instanceMethod yJ0_charAt_5068e, Cond.selects RJ0 yJ0_charAt_5068e yJ0_charAt_5068e, Cond.code yJ0_charAt_5068e cJ0_charAt_5068e 2 (some .char), Cond.methodLink RJ0 492 yJ0_isLatin1_aae02, Cond.instanceMethod yJ0_isLatin1_aae02, Cond.selects RJ0 yJ0_isLatin1_aae02 yJ0_isLatin1_aae02, Cond.code yJ0_isLatin1_aae02 cJ0_isLatin1_aae02 1 (some .boolean), Cond.methodLink RJ0 495 yJ1_charAt_3b067, Cond.static yJ1_charAt_3b067]
def wsX4_readTape_r4 : List Cond := [Cond.initialized RJ1, Cond.code yJ1_charAt_3b067 cJ1_charAt_3b067 2 (some .char), Cond.methodLink RJ1 9 yJ0_checkIndex_df160, Cond.static yJ0_checkIndex_df160, Cond.code yJ0_checkIndex_df160 cJ0_checkIndex_df160 2 none, Cond.fieldLink RJ0 1053 "jdk/internal/util/Preconditions" "SIOOBE_FORMATTER" "Ljava/util/function/BiFunction;", Cond.methodLink RJ0 1059 yJ3_checkIndex_8e157, Cond.static yJ3_checkIndex_8e157, Cond.initialized RJ3, Cond.code yJ3_checkIndex_8e157 cJ3_checkIndex_8e157 3 (some .int), Cond.methodLink RJ0 498 yJ2_charAt_3b067, Cond.static yJ2_charAt_3b067, Cond.initialized RJ2, Cond.code yJ2_charAt_3b067 cJ2_charAt_3b067 2 (some .char), Cond.methodLink RJ2 67 yJ2_checkIndex_2214a, Cond.static yJ2_checkIndex_2214a, Cond.code yJ2_checkIndex_2214a cJ2_checkIndex_2214a 2 none, Cond.methodLink RJ2 48 yJ2_length_9d52b, Cond.static yJ2_length_9d52b, Cond.code yJ2_length_9d52b cJ2_length_9d52b 1 (some .int), Cond.methodLink RJ2 414 yJ0_checkIndex_df160, Cond.methodLink RJ2 71 yJ2_getChar_3b067, Cond.static yJ2_getChar_3b067, Cond.code yJ2_getChar_3b067 cJ2_getChar_3b067 2 (some .char)]
def wsX4_readTape_r5 : List Cond := [Cond.fieldLink RJ2 44 "java/lang/StringUTF16" "$assertionsDisabled" "Z", Cond.fieldLink RJ2 59 "java/lang/StringUTF16" "HI_BYTE_SHIFT" "I", Cond.fieldLink RJ2 63 "java/lang/StringUTF16" "LO_BYTE_SHIFT" "I", Cond.methodLink RX4 56 yX4_refuse, Cond.instanceMethod yX4_refuse, Cond.selects RX4 yX4_refuse yX4_refuse, Cond.code yX4_refuse cX4_refuse 2 (some .boolean), Cond.fieldLink RX4 83 "TownClocks$Reading" "latestFault" "I", Cond.fieldLink RX4 86 "TownClocks$Tape" "first" "I", Cond.fieldLink RX4 89 "TownClocks$Reading" "faultPlace" "I", Cond.methodLink RX4 59 yX4_readNumber, Cond.instanceMethod yX4_readNumber, Cond.selects RX4 yX4_readNumber yX4_readNumber, Cond.code yX4_readNumber cX4_readNumber 1 (some .boolean), Cond.methodLink RX4 63 yX5_numberValue, Cond.instanceMethod yX5_numberValue, Cond.selects RX5 yX5_numberValue yX5_numberValue, Cond.code yX5_numberValue cX5_numberValue 3 (some .int), Cond.methodLink RX4 67 yX4_namedTerms, Cond.instanceMethod yX4_namedTerms, Cond.selects RX4 yX4_namedTerms yX4_namedTerms, Cond.code yX4_namedTerms cX4_namedTerms 1 (some .int), Cond.methodLink RX4 70 yX4_readSign, Cond.instanceMethod yX4_readSign]
def wsX4_readTape_r6 : List Cond := [Cond.selects RX4 yX4_readSign yX4_readSign, Cond.code yX4_readSign cX4_readSign 2 (some .boolean), Cond.methodLink RX4 80 yX5_isSign, Cond.instanceMethod yX5_isSign, Cond.selects RX5 yX5_isSign yX5_isSign, Cond.code yX5_isSign cX5_isSign 2 (some .boolean)]
def wsX4_readTape : List Cond := .code yX4_readTape cX4_readTape 2 (some .boolean) :: ((wsX4_readTape_r1 ++ (wsX4_readTape_r2 ++ (wsX4_readTape_r3 ++ (wsX4_readTape_r4 ++ (wsX4_readTape_r5 ++ wsX4_readTape_r6))))) ++ wsX40 ++ wsX50)
def wsX4_putInForce_r1 : List Cond := [Cond.fieldLink RX4 9 "TownClocks$Reading" "waitingTerms" "[I", Cond.classLink RX4 101 "TownClocks$Dial", Cond.fieldLink RX4 15 "TownClocks$Reading" "waitingBelow" "[I", Cond.fieldLink RX4 18 "TownClocks$Reading" "waitingPays" "[I", Cond.methodLink RX4 92 yJx4a65c_size_8abf5, Cond.instanceMethod yJx4a65c_size_8abf5, Cond.selects RJx4a65c yJx4a65c_size_8abf5 yJx4a65c_size_8abf5, Cond.initialized RJx4a65c, Cond.code yJx4a65c_size_8abf5 cJx4a65c_size_8abf5 1 (some .int), Cond.fieldLink RJx4a65c 48 "java/util/ArrayList" "size" "I", Cond.methodLink RX4 97 yJx4a65c_get_915e3, Cond.instanceMethod yJx4a65c_get_915e3, Cond.selects RJx4a65c yJx4a65c_get_915e3 yJx4a65c_get_915e3, Cond.code yJx4a65c_get_915e3 cJx4a65c_get_915e3 2 (some (.object "java/lang/Object")), Cond.methodLink RJx4a65c 118 yJ15_checkIndex_7cf53, Cond.static yJ15_checkIndex_7cf53, Cond.initialized RJ15, Cond.code yJ15_checkIndex_7cf53 cJ15_checkIndex_7cf53 2 (some .int), Cond.methodLink RJ15 105 yJ3_checkIndex_8e157, Cond.static yJ3_checkIndex_8e157, Cond.initialized RJ3, Cond.code yJ3_checkIndex_8e157 cJ3_checkIndex_8e157 3 (some .int), Cond.methodLink RJx4a65c 123 yJx4a65c_elementData_915e3, Cond.instanceMethod yJx4a65c_elementData_915e3]
def wsX4_putInForce_r2 : List Cond := [Cond.selects RJx4a65c yJx4a65c_elementData_915e3 yJx4a65c_elementData_915e3, Cond.code yJx4a65c_elementData_915e3 cJx4a65c_elementData_915e3 2 (some (.object "java/lang/Object")), Cond.fieldLink RJx4a65c 9 "java/util/ArrayList" "elementData" "[Ljava/lang/Object;", Cond.methodLink RX4 103 yX0_begin, Cond.instanceMethod yX0_begin, Cond.selects RX0 yX0_begin yX0_begin, Cond.initialized RX0, Cond.code yX0_begin cX0_begin 4 none, Cond.fieldLink RX0 47 "TownClocks$Dial" "terms" "I", Cond.fieldLink RX0 50 "TownClocks$Dial" "below" "I", Cond.fieldLink RX0 44 "TownClocks$Dial" "pays" "I", Cond.fieldLink RX0 41 "TownClocks$Dial" "owed" "I"]
def wsX4_putInForce : List Cond := .code yX4_putInForce cX4_putInForce 3 none :: ((wsX4_putInForce_r1 ++ wsX4_putInForce_r2) ++ wsX40 ++ wsJx4a65c0 ++ wsX00)
def wsX5_init : List Cond := .code yX5_init cX5_init 1 none :: ([.methodLink RX5 3 objectInit, .instanceMethod objectInit, .code objectInit ⟨#[0xb1]⟩ 1 none, .arrayClass .byte, .fieldLink RX5 9 "TownClocks$Tape" "bytes" "[B"] ++ wsX50)
def wsX5_append : List Cond := .code yX5_append cX5_append 5 none :: ([.fieldLink RX5 15 "TownClocks$Tape" "length" "I", .fieldLink RX5 9 "TownClocks$Tape" "bytes" "[B"] ++ wsX50)
def wsX6_init : List Cond := .code yX6_init cX6_init 1 none :: ([.methodLink RX6 1 objectInit, .instanceMethod objectInit, .code objectInit ⟨#[0xb1]⟩ 1 none, .arrayClass .int, .fieldLink RX6 9 "TownClocks$Trace" "numbers" "[I"] ++ wsX60)
def wsX6_begin : List Cond := .code yX6_begin cX6_begin 2 none :: ([.fieldLink RX6 13 "TownClocks$Trace" "length" "I", .fieldLink RX6 9 "TownClocks$Trace" "numbers" "[I"] ++ wsX60)
def wsJxa1e45_init_da8c8 : List Cond := .code yJxa1e45_init_da8c8 cJxa1e45_init_da8c8 1 none :: ([.methodLink RJxa1e45 1 objectInit, .instanceMethod objectInit, .code objectInit ⟨#[0xb1]⟩ 1 none])
def wsJxc12de_init_da8c8 : List Cond := .code yJxc12de_init_da8c8 cJxc12de_init_da8c8 1 none :: ([.fieldLink RJxc12de 7 "java/util/AbstractList" "modCount" "I", .methodLink RJxc12de 1 yJxa1e45_init_da8c8, .instanceMethod yJxa1e45_init_da8c8, .initialized RJxa1e45, .code yJxa1e45_init_da8c8 cJxa1e45_init_da8c8 1 none, .methodLink RJxa1e45 1 objectInit, .instanceMethod objectInit, .code objectInit ⟨#[0xb1]⟩ 1 none] ++ wsJx4a65c0)
def wsJx4a65c_init_da8c8 : List Cond := .code yJx4a65c_init_da8c8 cJx4a65c_init_da8c8 1 none :: ([.fieldLink RJx4a65c 39 "java/util/ArrayList" "DEFAULTCAPACITY_EMPTY_ELEMENTDATA" "[Ljava/lang/Object;", .fieldLink RJx4a65c 9 "java/util/ArrayList" "elementData" "[Ljava/lang/Object;", .methodLink RJx4a65c 1 yJxc12de_init_da8c8, .instanceMethod yJxc12de_init_da8c8, .initialized RJxc12de, .code yJxc12de_init_da8c8 cJxc12de_init_da8c8 1 none, .fieldLink RJxc12de 7 "java/util/AbstractList" "modCount" "I", .methodLink RJxc12de 1 yJxa1e45_init_da8c8, .instanceMethod yJxa1e45_init_da8c8, .initialized RJxa1e45, .code yJxa1e45_init_da8c8 cJxa1e45_init_da8c8 1 none, .methodLink RJxa1e45 1 objectInit, .instanceMethod objectInit, .code objectInit ⟨#[0xb1]⟩ 1 none] ++ wsJx4a65c0)
def wsX7_init_r1 : List Cond := [Cond.methodLink RX7 1 objectInit, Cond.instanceMethod objectInit, Cond.code objectInit ⟨#[0xb1]⟩ 1 none, Cond.classLink RX7 7 RJx4a65c, Cond.instantiable RJx4a65c 3, Cond.initialized RJx4a65c, Cond.fieldLink RX7 10 "TownClocks" "pipes" "Ljava/util/ArrayList;", Cond.fieldLink RX7 16 "TownClocks" "dials" "Ljava/util/ArrayList;", Cond.classLink RX7 19 RX2, Cond.instantiable RX2 5, Cond.initialized RX2, Cond.fieldLink RX7 22 "TownClocks" "master" "LTownClocks$Master;", Cond.classLink RX7 26 RX1, Cond.instantiable RX1 4, Cond.initialized RX1, Cond.fieldLink RX7 29 "TownClocks" "explanations" "LTownClocks$Explanations;", Cond.classLink RX7 33 RX5, Cond.instantiable RX5 5, Cond.initialized RX5, Cond.fieldLink RX7 36 "TownClocks" "tape" "LTownClocks$Tape;", Cond.classLink RX7 40 RX4, Cond.instantiable RX4 7, Cond.initialized RX4, Cond.fieldLink RX7 45 "TownClocks" "reading" "LTownClocks$Reading;"]
def wsX7_init_r2 : List Cond := [Cond.classLink RX7 49 RX6, Cond.instantiable RX6 2, Cond.initialized RX6, Cond.fieldLink RX7 52 "TownClocks" "bodies" "LTownClocks$Trace;", Cond.methodLink RX7 9 yJx4a65c_init_da8c8, Cond.instanceMethod yJx4a65c_init_da8c8, Cond.code yJx4a65c_init_da8c8 cJx4a65c_init_da8c8 1 none, Cond.fieldLink RJx4a65c 39 "java/util/ArrayList" "DEFAULTCAPACITY_EMPTY_ELEMENTDATA" "[Ljava/lang/Object;", Cond.fieldLink RJx4a65c 9 "java/util/ArrayList" "elementData" "[Ljava/lang/Object;", Cond.methodLink RJx4a65c 1 yJxc12de_init_da8c8, Cond.instanceMethod yJxc12de_init_da8c8, Cond.initialized RJxc12de, Cond.code yJxc12de_init_da8c8 cJxc12de_init_da8c8 1 none, Cond.fieldLink RJxc12de 7 "java/util/AbstractList" "modCount" "I", Cond.methodLink RJxc12de 1 yJxa1e45_init_da8c8, Cond.instanceMethod yJxa1e45_init_da8c8, Cond.initialized RJxa1e45, Cond.code yJxa1e45_init_da8c8 cJxa1e45_init_da8c8 1 none, Cond.methodLink RJxa1e45 1 objectInit, Cond.instanceMethod yX2_init, Cond.code yX2_init cX2_init 1 none, Cond.methodLink RX2 1 objectInit, Cond.instanceMethod yX1_init, Cond.code yX1_init cX1_init 1 none]
def wsX7_init_r3 : List Cond := [Cond.methodLink RX1 3 objectInit, Cond.arrayClass .int, Cond.fieldLink RX1 9 "TownClocks$Explanations" "pipe" "[I", Cond.fieldLink RX1 15 "TownClocks$Explanations" "leastLeak" "[I", Cond.fieldLink RX1 18 "TownClocks$Explanations" "likeAir" "[I", Cond.instanceMethod yX5_init, Cond.code yX5_init cX5_init 1 none, Cond.methodLink RX5 3 objectInit, Cond.arrayClass .byte, Cond.fieldLink RX5 9 "TownClocks$Tape" "bytes" "[B", Cond.methodLink RX7 42 yX4_init, Cond.instanceMethod yX4_init, Cond.code yX4_init cX4_init 2 none, Cond.methodLink RX4 3 objectInit, Cond.fieldLink RX4 9 "TownClocks$Reading" "waitingTerms" "[I", Cond.fieldLink RX4 15 "TownClocks$Reading" "waitingBelow" "[I", Cond.fieldLink RX4 18 "TownClocks$Reading" "waitingPays" "[I", Cond.fieldLink RX4 21 "TownClocks$Reading" "tape" "LTownClocks$Tape;", Cond.instanceMethod yX6_init, Cond.code yX6_init cX6_init 1 none, Cond.methodLink RX6 1 objectInit, Cond.fieldLink RX6 9 "TownClocks$Trace" "numbers" "[I"]
def wsX7_init : List Cond := .code yX7_init cX7_init 1 none :: ((wsX7_init_r1 ++ (wsX7_init_r2 ++ wsX7_init_r3)) ++ wsJx4a65c0 ++ wsX70 ++ wsX20 ++ wsX10 ++ wsX50 ++ wsX40 ++ wsX60)
def wsX7_within : List Cond := .code yX7_within cX7_within 3 (some .boolean) :: ([])
def wsX7_pipeAt_r1 : List Cond := [Cond.fieldLink RX7 10 "TownClocks" "pipes" "Ljava/util/ArrayList;", Cond.classLink RX7 71 "TownClocks$Pipe", Cond.methodLink RX7 66 yJx4a65c_size_8abf5, Cond.instanceMethod yJx4a65c_size_8abf5, Cond.selects RJx4a65c yJx4a65c_size_8abf5 yJx4a65c_size_8abf5, Cond.initialized RJx4a65c, Cond.code yJx4a65c_size_8abf5 cJx4a65c_size_8abf5 1 (some .int), Cond.fieldLink RJx4a65c 48 "java/util/ArrayList" "size" "I", Cond.methodLink RX7 62 yX7_within, Cond.static yX7_within, Cond.initialized RX7, Cond.code yX7_within cX7_within 3 (some .boolean), Cond.methodLink RX7 103 yJx4a65c_get_915e3, Cond.instanceMethod yJx4a65c_get_915e3, Cond.selects RJx4a65c yJx4a65c_get_915e3 yJx4a65c_get_915e3, Cond.code yJx4a65c_get_915e3 cJx4a65c_get_915e3 2 (some (.object "java/lang/Object")), Cond.methodLink RJx4a65c 118 yJ15_checkIndex_7cf53, Cond.static yJ15_checkIndex_7cf53, Cond.initialized RJ15, Cond.code yJ15_checkIndex_7cf53 cJ15_checkIndex_7cf53 2 (some .int), Cond.methodLink RJ15 105 yJ3_checkIndex_8e157, Cond.static yJ3_checkIndex_8e157, Cond.initialized RJ3, Cond.code yJ3_checkIndex_8e157 cJ3_checkIndex_8e157 3 (some .int)]
def wsX7_pipeAt_r2 : List Cond := [Cond.methodLink RJx4a65c 123 yJx4a65c_elementData_915e3, Cond.instanceMethod yJx4a65c_elementData_915e3, Cond.selects RJx4a65c yJx4a65c_elementData_915e3 yJx4a65c_elementData_915e3, Cond.code yJx4a65c_elementData_915e3 cJx4a65c_elementData_915e3 2 (some (.object "java/lang/Object")), Cond.fieldLink RJx4a65c 9 "java/util/ArrayList" "elementData" "[Ljava/lang/Object;"]
def wsX7_pipeAt : List Cond := .code yX7_pipeAt cX7_pipeAt 2 (some (.object "TownClocks$Pipe")) :: ((wsX7_pipeAt_r1 ++ wsX7_pipeAt_r2) ++ wsX70 ++ wsJx4a65c0)
def wsJ8_hugeLength_7cf53 : List Cond := .code yJ8_hugeLength_7cf53 cJ8_hugeLength_7cf53 3 (some .int) :: ([.constant RJ8 200 (2147483639)])
def wsJ8_newLength_cabcc : List Cond := .code yJ8_newLength_cabcc cJ8_newLength_cabcc 4 (some .int) :: ([.methodLink RJ8 194 Lib.Math.max.name, .static Lib.Math.max.name, .initialized "java/lang/Math", .code Lib.Math.max.name Lib.Math.max.code 2 (some .int), .constant RJ8 200 (2147483639), .methodLink RJ8 201 yJ8_hugeLength_7cf53, .static yJ8_hugeLength_7cf53, .initialized RJ8, .code yJ8_hugeLength_7cf53 cJ8_hugeLength_7cf53 3 (some .int)])
def wsJ7_copyOf_6403c : List Cond := .code yJ7_copyOf_6403c cJ7_copyOf_6403c 4 (some (.array (.object "java/lang/Object"))) :: ([.classLink RJ7 110 "[Ljava/lang/Object;", .classLink RJ7 2 "java/lang/Object", .methodLink RJ7 304 Lib.Math.min.name, .static Lib.Math.min.name, .initialized "java/lang/Math", .code Lib.Math.min.name Lib.Math.min.code 2 (some .int), .methodLink RJ7 150 arraycopyName, .native arraycopyName, .static arraycopyName, .initialized "java/lang/System"])
def wsJ7_copyOf_1904c : List Cond := .code yJ7_copyOf_1904c cJ7_copyOf_1904c 2 (some (.array (.object "java/lang/Object"))) :: ([.methodLink RJ7 86 ⟨"java/lang/Object", "getClass", "()Ljava/lang/Class;"⟩, .selects "[Ljava/lang/Object;" ⟨"java/lang/Object", "getClass", "()Ljava/lang/Class;"⟩ ⟨"java/lang/Object", "getClass", "()Ljava/lang/Class;"⟩, .instanceMethod ⟨"java/lang/Object", "getClass", "()Ljava/lang/Class;"⟩, .native ⟨"java/lang/Object", "getClass", "()Ljava/lang/Class;"⟩, .methodLink RJ7 300 yJ7_copyOf_6403c, .static yJ7_copyOf_6403c, .initialized RJ7, .code yJ7_copyOf_6403c cJ7_copyOf_6403c 4 (some (.array (.object "java/lang/Object"))), .classLink RJ7 110 "[Ljava/lang/Object;", .classLink RJ7 2 "java/lang/Object", .methodLink RJ7 304 Lib.Math.min.name, .static Lib.Math.min.name, .initialized "java/lang/Math", .code Lib.Math.min.name Lib.Math.min.code 2 (some .int), .methodLink RJ7 150 arraycopyName, .native arraycopyName, .static arraycopyName, .initialized "java/lang/System"])
def wsJx4a65c_grow_92f84_r1 : List Cond := [Cond.fieldLink RJx4a65c 9 "java/util/ArrayList" "elementData" "[Ljava/lang/Object;", Cond.fieldLink RJx4a65c 39 "java/util/ArrayList" "DEFAULTCAPACITY_EMPTY_ELEMENTDATA" "[Ljava/lang/Object;", Cond.methodLink RJx4a65c 79 Lib.Math.max.name, Cond.static Lib.Math.max.name, Cond.initialized "java/lang/Math", Cond.code Lib.Math.max.name Lib.Math.max.code 2 (some .int), Cond.classLink RJx4a65c 7 "java/lang/Object", Cond.methodLink RJx4a65c 73 yJ8_newLength_cabcc, Cond.static yJ8_newLength_cabcc, Cond.initialized RJ8, Cond.code yJ8_newLength_cabcc cJ8_newLength_cabcc 4 (some .int), Cond.methodLink RJ8 194 Lib.Math.max.name, Cond.constant RJ8 200 (2147483639), Cond.methodLink RJ8 201 yJ8_hugeLength_7cf53, Cond.static yJ8_hugeLength_7cf53, Cond.code yJ8_hugeLength_7cf53 cJ8_hugeLength_7cf53 3 (some .int), Cond.methodLink RJx4a65c 66 yJ7_copyOf_1904c, Cond.static yJ7_copyOf_1904c, Cond.initialized RJ7, Cond.code yJ7_copyOf_1904c cJ7_copyOf_1904c 2 (some (.array (.object "java/lang/Object"))), Cond.methodLink RJ7 86 ⟨"java/lang/Object", "getClass", "()Ljava/lang/Class;"⟩, Cond.selects "[Ljava/lang/Object;" ⟨"java/lang/Object", "getClass", "()Ljava/lang/Class;"⟩ ⟨"java/lang/Object", "getClass", "()Ljava/lang/Class;"⟩, Cond.instanceMethod ⟨"java/lang/Object", "getClass", "()Ljava/lang/Class;"⟩, Cond.native ⟨"java/lang/Object", "getClass", "()Ljava/lang/Class;"⟩]
def wsJx4a65c_grow_92f84_r2 : List Cond := [Cond.methodLink RJ7 300 yJ7_copyOf_6403c, Cond.static yJ7_copyOf_6403c, Cond.code yJ7_copyOf_6403c cJ7_copyOf_6403c 4 (some (.array (.object "java/lang/Object"))), Cond.classLink RJ7 110 "[Ljava/lang/Object;", Cond.classLink RJ7 2 "java/lang/Object", Cond.methodLink RJ7 304 Lib.Math.min.name, Cond.static Lib.Math.min.name, Cond.code Lib.Math.min.name Lib.Math.min.code 2 (some .int), Cond.methodLink RJ7 150 arraycopyName, Cond.native arraycopyName, Cond.static arraycopyName, Cond.initialized "java/lang/System"]
def wsJx4a65c_grow_92f84 : List Cond := .code yJx4a65c_grow_92f84 cJx4a65c_grow_92f84 4 (some (.array (.object "java/lang/Object"))) :: ((wsJx4a65c_grow_92f84_r1 ++ wsJx4a65c_grow_92f84_r2) ++ wsJx4a65c0)
def wsJx4a65c_grow_d5877_r1 : List Cond := [Cond.fieldLink RJx4a65c 48 "java/util/ArrayList" "size" "I", Cond.methodLink RJx4a65c 69 yJx4a65c_grow_92f84, Cond.instanceMethod yJx4a65c_grow_92f84, Cond.selects RJx4a65c yJx4a65c_grow_92f84 yJx4a65c_grow_92f84, Cond.initialized RJx4a65c, Cond.code yJx4a65c_grow_92f84 cJx4a65c_grow_92f84 4 (some (.array (.object "java/lang/Object"))), Cond.fieldLink RJx4a65c 9 "java/util/ArrayList" "elementData" "[Ljava/lang/Object;", Cond.fieldLink RJx4a65c 39 "java/util/ArrayList" "DEFAULTCAPACITY_EMPTY_ELEMENTDATA" "[Ljava/lang/Object;", Cond.methodLink RJx4a65c 79 Lib.Math.max.name, Cond.static Lib.Math.max.name, Cond.initialized "java/lang/Math", Cond.code Lib.Math.max.name Lib.Math.max.code 2 (some .int), Cond.classLink RJx4a65c 7 "java/lang/Object", Cond.methodLink RJx4a65c 73 yJ8_newLength_cabcc, Cond.static yJ8_newLength_cabcc, Cond.initialized RJ8, Cond.code yJ8_newLength_cabcc cJ8_newLength_cabcc 4 (some .int), Cond.methodLink RJ8 194 Lib.Math.max.name, Cond.constant RJ8 200 (2147483639), Cond.methodLink RJ8 201 yJ8_hugeLength_7cf53, Cond.static yJ8_hugeLength_7cf53, Cond.code yJ8_hugeLength_7cf53 cJ8_hugeLength_7cf53 3 (some .int), Cond.methodLink RJx4a65c 66 yJ7_copyOf_1904c, Cond.static yJ7_copyOf_1904c]
def wsJx4a65c_grow_d5877_r2 : List Cond := [Cond.initialized RJ7, Cond.code yJ7_copyOf_1904c cJ7_copyOf_1904c 2 (some (.array (.object "java/lang/Object"))), Cond.methodLink RJ7 86 ⟨"java/lang/Object", "getClass", "()Ljava/lang/Class;"⟩, Cond.selects "[Ljava/lang/Object;" ⟨"java/lang/Object", "getClass", "()Ljava/lang/Class;"⟩ ⟨"java/lang/Object", "getClass", "()Ljava/lang/Class;"⟩, Cond.instanceMethod ⟨"java/lang/Object", "getClass", "()Ljava/lang/Class;"⟩, Cond.native ⟨"java/lang/Object", "getClass", "()Ljava/lang/Class;"⟩, Cond.methodLink RJ7 300 yJ7_copyOf_6403c, Cond.static yJ7_copyOf_6403c, Cond.code yJ7_copyOf_6403c cJ7_copyOf_6403c 4 (some (.array (.object "java/lang/Object"))), Cond.classLink RJ7 110 "[Ljava/lang/Object;", Cond.classLink RJ7 2 "java/lang/Object", Cond.methodLink RJ7 304 Lib.Math.min.name, Cond.static Lib.Math.min.name, Cond.code Lib.Math.min.name Lib.Math.min.code 2 (some .int), Cond.methodLink RJ7 150 arraycopyName, Cond.native arraycopyName, Cond.static arraycopyName, Cond.initialized "java/lang/System"]
def wsJx4a65c_grow_d5877 : List Cond := .code yJx4a65c_grow_d5877 cJx4a65c_grow_d5877 1 (some (.array (.object "java/lang/Object"))) :: ((wsJx4a65c_grow_d5877_r1 ++ wsJx4a65c_grow_d5877_r2) ++ wsJx4a65c0)
def wsJx4a65c_add_72be8_r1 : List Cond := [Cond.fieldLink RJx4a65c 48 "java/util/ArrayList" "size" "I", Cond.methodLink RJx4a65c 129 yJx4a65c_grow_d5877, Cond.instanceMethod yJx4a65c_grow_d5877, Cond.selects RJx4a65c yJx4a65c_grow_d5877 yJx4a65c_grow_d5877, Cond.initialized RJx4a65c, Cond.code yJx4a65c_grow_d5877 cJx4a65c_grow_d5877 1 (some (.array (.object "java/lang/Object"))), Cond.methodLink RJx4a65c 69 yJx4a65c_grow_92f84, Cond.instanceMethod yJx4a65c_grow_92f84, Cond.selects RJx4a65c yJx4a65c_grow_92f84 yJx4a65c_grow_92f84, Cond.code yJx4a65c_grow_92f84 cJx4a65c_grow_92f84 4 (some (.array (.object "java/lang/Object"))), Cond.fieldLink RJx4a65c 9 "java/util/ArrayList" "elementData" "[Ljava/lang/Object;", Cond.fieldLink RJx4a65c 39 "java/util/ArrayList" "DEFAULTCAPACITY_EMPTY_ELEMENTDATA" "[Ljava/lang/Object;", Cond.methodLink RJx4a65c 79 Lib.Math.max.name, Cond.static Lib.Math.max.name, Cond.initialized "java/lang/Math", Cond.code Lib.Math.max.name Lib.Math.max.code 2 (some .int), Cond.classLink RJx4a65c 7 "java/lang/Object", Cond.methodLink RJx4a65c 73 yJ8_newLength_cabcc, Cond.static yJ8_newLength_cabcc, Cond.initialized RJ8, Cond.code yJ8_newLength_cabcc cJ8_newLength_cabcc 4 (some .int), Cond.methodLink RJ8 194 Lib.Math.max.name, Cond.constant RJ8 200 (2147483639), Cond.methodLink RJ8 201 yJ8_hugeLength_7cf53]
def wsJx4a65c_add_72be8_r2 : List Cond := [Cond.static yJ8_hugeLength_7cf53, Cond.code yJ8_hugeLength_7cf53 cJ8_hugeLength_7cf53 3 (some .int), Cond.methodLink RJx4a65c 66 yJ7_copyOf_1904c, Cond.static yJ7_copyOf_1904c, Cond.initialized RJ7, Cond.code yJ7_copyOf_1904c cJ7_copyOf_1904c 2 (some (.array (.object "java/lang/Object"))), Cond.methodLink RJ7 86 ⟨"java/lang/Object", "getClass", "()Ljava/lang/Class;"⟩, Cond.selects "[Ljava/lang/Object;" ⟨"java/lang/Object", "getClass", "()Ljava/lang/Class;"⟩ ⟨"java/lang/Object", "getClass", "()Ljava/lang/Class;"⟩, Cond.instanceMethod ⟨"java/lang/Object", "getClass", "()Ljava/lang/Class;"⟩, Cond.native ⟨"java/lang/Object", "getClass", "()Ljava/lang/Class;"⟩, Cond.methodLink RJ7 300 yJ7_copyOf_6403c, Cond.static yJ7_copyOf_6403c, Cond.code yJ7_copyOf_6403c cJ7_copyOf_6403c 4 (some (.array (.object "java/lang/Object"))), Cond.classLink RJ7 110 "[Ljava/lang/Object;", Cond.classLink RJ7 2 "java/lang/Object", Cond.methodLink RJ7 304 Lib.Math.min.name, Cond.static Lib.Math.min.name, Cond.code Lib.Math.min.name Lib.Math.min.code 2 (some .int), Cond.methodLink RJ7 150 arraycopyName, Cond.native arraycopyName, Cond.static arraycopyName, Cond.initialized "java/lang/System"]
def wsJx4a65c_add_72be8 : List Cond := .code yJx4a65c_add_72be8 cJx4a65c_add_72be8 4 none :: ((wsJx4a65c_add_72be8_r1 ++ wsJx4a65c_add_72be8_r2) ++ wsJx4a65c0)
def wsJx4a65c_add_9ea2d_r1 : List Cond := [Cond.fieldLink RJx4a65c 63 "java/util/ArrayList" "modCount" "I", Cond.sameField "java/util/ArrayList" "java/util/AbstractList" "modCount" "I", Cond.fieldLink RJx4a65c 9 "java/util/ArrayList" "elementData" "[Ljava/lang/Object;", Cond.fieldLink RJx4a65c 48 "java/util/ArrayList" "size" "I", Cond.methodLink RJx4a65c 131 yJx4a65c_add_72be8, Cond.instanceMethod yJx4a65c_add_72be8, Cond.selects RJx4a65c yJx4a65c_add_72be8 yJx4a65c_add_72be8, Cond.initialized RJx4a65c, Cond.code yJx4a65c_add_72be8 cJx4a65c_add_72be8 4 none, Cond.methodLink RJx4a65c 129 yJx4a65c_grow_d5877, Cond.instanceMethod yJx4a65c_grow_d5877, Cond.selects RJx4a65c yJx4a65c_grow_d5877 yJx4a65c_grow_d5877, Cond.code yJx4a65c_grow_d5877 cJx4a65c_grow_d5877 1 (some (.array (.object "java/lang/Object"))), Cond.methodLink RJx4a65c 69 yJx4a65c_grow_92f84, Cond.instanceMethod yJx4a65c_grow_92f84, Cond.selects RJx4a65c yJx4a65c_grow_92f84 yJx4a65c_grow_92f84, Cond.code yJx4a65c_grow_92f84 cJx4a65c_grow_92f84 4 (some (.array (.object "java/lang/Object"))), Cond.fieldLink RJx4a65c 39 "java/util/ArrayList" "DEFAULTCAPACITY_EMPTY_ELEMENTDATA" "[Ljava/lang/Object;", Cond.methodLink RJx4a65c 79 Lib.Math.max.name, Cond.static Lib.Math.max.name, Cond.initialized "java/lang/Math", Cond.code Lib.Math.max.name Lib.Math.max.code 2 (some .int), Cond.classLink RJx4a65c 7 "java/lang/Object", Cond.methodLink RJx4a65c 73 yJ8_newLength_cabcc]
def wsJx4a65c_add_9ea2d_r2 : List Cond := [Cond.static yJ8_newLength_cabcc, Cond.initialized RJ8, Cond.code yJ8_newLength_cabcc cJ8_newLength_cabcc 4 (some .int), Cond.methodLink RJ8 194 Lib.Math.max.name, Cond.constant RJ8 200 (2147483639), Cond.methodLink RJ8 201 yJ8_hugeLength_7cf53, Cond.static yJ8_hugeLength_7cf53, Cond.code yJ8_hugeLength_7cf53 cJ8_hugeLength_7cf53 3 (some .int), Cond.methodLink RJx4a65c 66 yJ7_copyOf_1904c, Cond.static yJ7_copyOf_1904c, Cond.initialized RJ7, Cond.code yJ7_copyOf_1904c cJ7_copyOf_1904c 2 (some (.array (.object "java/lang/Object"))), Cond.methodLink RJ7 86 ⟨"java/lang/Object", "getClass", "()Ljava/lang/Class;"⟩, Cond.selects "[Ljava/lang/Object;" ⟨"java/lang/Object", "getClass", "()Ljava/lang/Class;"⟩ ⟨"java/lang/Object", "getClass", "()Ljava/lang/Class;"⟩, Cond.instanceMethod ⟨"java/lang/Object", "getClass", "()Ljava/lang/Class;"⟩, Cond.native ⟨"java/lang/Object", "getClass", "()Ljava/lang/Class;"⟩, Cond.methodLink RJ7 300 yJ7_copyOf_6403c, Cond.static yJ7_copyOf_6403c, Cond.code yJ7_copyOf_6403c cJ7_copyOf_6403c 4 (some (.array (.object "java/lang/Object"))), Cond.classLink RJ7 110 "[Ljava/lang/Object;", Cond.classLink RJ7 2 "java/lang/Object", Cond.methodLink RJ7 304 Lib.Math.min.name, Cond.static Lib.Math.min.name, Cond.code Lib.Math.min.name Lib.Math.min.code 2 (some .int)]
def wsJx4a65c_add_9ea2d_r3 : List Cond := [Cond.methodLink RJ7 150 arraycopyName, Cond.native arraycopyName, Cond.static arraycopyName, Cond.initialized "java/lang/System"]
def wsJx4a65c_add_9ea2d : List Cond := .code yJx4a65c_add_9ea2d cJx4a65c_add_9ea2d 2 (some .boolean) :: ((wsJx4a65c_add_9ea2d_r1 ++ (wsJx4a65c_add_9ea2d_r2 ++ wsJx4a65c_add_9ea2d_r3)) ++ wsJx4a65c0)
def wsX7_pipe_r1 : List Cond := [Cond.constant RX7 60 (-1000000), Cond.constant RX7 61 (-1000001), Cond.fieldLink RX7 10 "TownClocks" "pipes" "Ljava/util/ArrayList;", Cond.constant RX7 70 (-1000003), Cond.classLink RX7 71 RX3, Cond.instantiable RX3 6, Cond.initialized RX3, Cond.methodLink RX7 56 yX7_pipeAt, Cond.instanceMethod yX7_pipeAt, Cond.selects RX7 yX7_pipeAt yX7_pipeAt, Cond.initialized RX7, Cond.code yX7_pipeAt cX7_pipeAt 2 (some (.object "TownClocks$Pipe")), Cond.classLink RX7 71 "TownClocks$Pipe", Cond.methodLink RX7 66 yJx4a65c_size_8abf5, Cond.instanceMethod yJx4a65c_size_8abf5, Cond.selects RJx4a65c yJx4a65c_size_8abf5 yJx4a65c_size_8abf5, Cond.initialized RJx4a65c, Cond.code yJx4a65c_size_8abf5 cJx4a65c_size_8abf5 1 (some .int), Cond.fieldLink RJx4a65c 48 "java/util/ArrayList" "size" "I", Cond.methodLink RX7 62 yX7_within, Cond.static yX7_within, Cond.code yX7_within cX7_within 3 (some .boolean), Cond.methodLink RX7 103 yJx4a65c_get_915e3, Cond.instanceMethod yJx4a65c_get_915e3]
def wsX7_pipe_r2 : List Cond := [Cond.selects RJx4a65c yJx4a65c_get_915e3 yJx4a65c_get_915e3, Cond.code yJx4a65c_get_915e3 cJx4a65c_get_915e3 2 (some (.object "java/lang/Object")), Cond.methodLink RJx4a65c 118 yJ15_checkIndex_7cf53, Cond.static yJ15_checkIndex_7cf53, Cond.initialized RJ15, Cond.code yJ15_checkIndex_7cf53 cJ15_checkIndex_7cf53 2 (some .int), Cond.methodLink RJ15 105 yJ3_checkIndex_8e157, Cond.static yJ3_checkIndex_8e157, Cond.initialized RJ3, Cond.code yJ3_checkIndex_8e157 cJ3_checkIndex_8e157 3 (some .int), Cond.methodLink RJx4a65c 123 yJx4a65c_elementData_915e3, Cond.instanceMethod yJx4a65c_elementData_915e3, Cond.selects RJx4a65c yJx4a65c_elementData_915e3 yJx4a65c_elementData_915e3, Cond.code yJx4a65c_elementData_915e3 cJx4a65c_elementData_915e3 2 (some (.object "java/lang/Object")), Cond.fieldLink RJx4a65c 9 "java/util/ArrayList" "elementData" "[Ljava/lang/Object;", Cond.methodLink RX7 73 yX3_init, Cond.instanceMethod yX3_init, Cond.code yX3_init cX3_init 5 none, Cond.methodLink RX3 3 objectInit, Cond.instanceMethod objectInit, Cond.code objectInit ⟨#[0xb1]⟩ 1 none, Cond.fieldLink RX3 9 "TownClocks$Pipe" "number" "I", Cond.fieldLink RX3 15 "TownClocks$Pipe" "ahead" "LTownClocks$Pipe;", Cond.fieldLink RX3 19 "TownClocks$Pipe" "lossInAll" "I"]
def wsX7_pipe_r3 : List Cond := [Cond.fieldLink RX3 22 "TownClocks$Pipe" "lagInAll" "I", Cond.fieldLink RX3 25 "TownClocks$Pipe" "wayBits" "I", Cond.methodLink RX7 76 yJx4a65c_add_9ea2d, Cond.instanceMethod yJx4a65c_add_9ea2d, Cond.selects RJx4a65c yJx4a65c_add_9ea2d yJx4a65c_add_9ea2d, Cond.code yJx4a65c_add_9ea2d cJx4a65c_add_9ea2d 2 (some .boolean), Cond.fieldLink RJx4a65c 63 "java/util/ArrayList" "modCount" "I", Cond.sameField "java/util/ArrayList" "java/util/AbstractList" "modCount" "I", Cond.methodLink RJx4a65c 131 yJx4a65c_add_72be8, Cond.instanceMethod yJx4a65c_add_72be8, Cond.selects RJx4a65c yJx4a65c_add_72be8 yJx4a65c_add_72be8, Cond.code yJx4a65c_add_72be8 cJx4a65c_add_72be8 4 none, Cond.methodLink RJx4a65c 129 yJx4a65c_grow_d5877, Cond.instanceMethod yJx4a65c_grow_d5877, Cond.selects RJx4a65c yJx4a65c_grow_d5877 yJx4a65c_grow_d5877, Cond.code yJx4a65c_grow_d5877 cJx4a65c_grow_d5877 1 (some (.array (.object "java/lang/Object"))), Cond.methodLink RJx4a65c 69 yJx4a65c_grow_92f84, Cond.instanceMethod yJx4a65c_grow_92f84, Cond.selects RJx4a65c yJx4a65c_grow_92f84 yJx4a65c_grow_92f84, Cond.code yJx4a65c_grow_92f84 cJx4a65c_grow_92f84 4 (some (.array (.object "java/lang/Object"))), Cond.fieldLink RJx4a65c 39 "java/util/ArrayList" "DEFAULTCAPACITY_EMPTY_ELEMENTDATA" "[Ljava/lang/Object;", Cond.methodLink RJx4a65c 79 Lib.Math.max.name, Cond.static Lib.Math.max.name, Cond.initialized "java/lang/Math"]
def wsX7_pipe_r4 : List Cond := [Cond.code Lib.Math.max.name Lib.Math.max.code 2 (some .int), Cond.classLink RJx4a65c 7 "java/lang/Object", Cond.methodLink RJx4a65c 73 yJ8_newLength_cabcc, Cond.static yJ8_newLength_cabcc, Cond.initialized RJ8, Cond.code yJ8_newLength_cabcc cJ8_newLength_cabcc 4 (some .int), Cond.methodLink RJ8 194 Lib.Math.max.name, Cond.constant RJ8 200 (2147483639), Cond.methodLink RJ8 201 yJ8_hugeLength_7cf53, Cond.static yJ8_hugeLength_7cf53, Cond.code yJ8_hugeLength_7cf53 cJ8_hugeLength_7cf53 3 (some .int), Cond.methodLink RJx4a65c 66 yJ7_copyOf_1904c, Cond.static yJ7_copyOf_1904c, Cond.initialized RJ7, Cond.code yJ7_copyOf_1904c cJ7_copyOf_1904c 2 (some (.array (.object "java/lang/Object"))), Cond.methodLink RJ7 86 ⟨"java/lang/Object", "getClass", "()Ljava/lang/Class;"⟩, Cond.selects "[Ljava/lang/Object;" ⟨"java/lang/Object", "getClass", "()Ljava/lang/Class;"⟩ ⟨"java/lang/Object", "getClass", "()Ljava/lang/Class;"⟩, Cond.instanceMethod ⟨"java/lang/Object", "getClass", "()Ljava/lang/Class;"⟩, Cond.native ⟨"java/lang/Object", "getClass", "()Ljava/lang/Class;"⟩, Cond.methodLink RJ7 300 yJ7_copyOf_6403c, Cond.static yJ7_copyOf_6403c, Cond.code yJ7_copyOf_6403c cJ7_copyOf_6403c 4 (some (.array (.object "java/lang/Object"))), Cond.classLink RJ7 110 "[Ljava/lang/Object;", Cond.classLink RJ7 2 "java/lang/Object"]
def wsX7_pipe_r5 : List Cond := [Cond.methodLink RJ7 304 Lib.Math.min.name, Cond.static Lib.Math.min.name, Cond.code Lib.Math.min.name Lib.Math.min.code 2 (some .int), Cond.methodLink RJ7 150 arraycopyName, Cond.native arraycopyName, Cond.static arraycopyName, Cond.initialized "java/lang/System"]
def wsX7_pipe : List Cond := .code yX7_pipe cX7_pipe 6 (some .int) :: ((wsX7_pipe_r1 ++ (wsX7_pipe_r2 ++ (wsX7_pipe_r3 ++ (wsX7_pipe_r4 ++ wsX7_pipe_r5)))) ++ wsX70 ++ wsX30 ++ wsJx4a65c0)
def wsX7_leak_r1 : List Cond := [Cond.constant RX7 61 (-1000001), Cond.fieldLink RX7 80 "TownClocks$Pipe" "leak" "I", Cond.methodLink RX7 56 yX7_pipeAt, Cond.instanceMethod yX7_pipeAt, Cond.selects RX7 yX7_pipeAt yX7_pipeAt, Cond.initialized RX7, Cond.code yX7_pipeAt cX7_pipeAt 2 (some (.object "TownClocks$Pipe")), Cond.fieldLink RX7 10 "TownClocks" "pipes" "Ljava/util/ArrayList;", Cond.classLink RX7 71 "TownClocks$Pipe", Cond.methodLink RX7 66 yJx4a65c_size_8abf5, Cond.instanceMethod yJx4a65c_size_8abf5, Cond.selects RJx4a65c yJx4a65c_size_8abf5 yJx4a65c_size_8abf5, Cond.initialized RJx4a65c, Cond.code yJx4a65c_size_8abf5 cJx4a65c_size_8abf5 1 (some .int), Cond.fieldLink RJx4a65c 48 "java/util/ArrayList" "size" "I", Cond.methodLink RX7 62 yX7_within, Cond.static yX7_within, Cond.code yX7_within cX7_within 3 (some .boolean), Cond.methodLink RX7 103 yJx4a65c_get_915e3, Cond.instanceMethod yJx4a65c_get_915e3, Cond.selects RJx4a65c yJx4a65c_get_915e3 yJx4a65c_get_915e3, Cond.code yJx4a65c_get_915e3 cJx4a65c_get_915e3 2 (some (.object "java/lang/Object")), Cond.methodLink RJx4a65c 118 yJ15_checkIndex_7cf53, Cond.static yJ15_checkIndex_7cf53]
def wsX7_leak_r2 : List Cond := [Cond.initialized RJ15, Cond.code yJ15_checkIndex_7cf53 cJ15_checkIndex_7cf53 2 (some .int), Cond.methodLink RJ15 105 yJ3_checkIndex_8e157, Cond.static yJ3_checkIndex_8e157, Cond.initialized RJ3, Cond.code yJ3_checkIndex_8e157 cJ3_checkIndex_8e157 3 (some .int), Cond.methodLink RJx4a65c 123 yJx4a65c_elementData_915e3, Cond.instanceMethod yJx4a65c_elementData_915e3, Cond.selects RJx4a65c yJx4a65c_elementData_915e3 yJx4a65c_elementData_915e3, Cond.code yJx4a65c_elementData_915e3 cJx4a65c_elementData_915e3 2 (some (.object "java/lang/Object")), Cond.fieldLink RJx4a65c 9 "java/util/ArrayList" "elementData" "[Ljava/lang/Object;"]
def wsX7_leak : List Cond := .code yX7_leak cX7_leak 5 (some .int) :: ((wsX7_leak_r1 ++ wsX7_leak_r2) ++ wsX30 ++ wsX70 ++ wsJx4a65c0)
def wsX7_told_r1 : List Cond := [Cond.constant RX7 61 (-1000001), Cond.fieldLink RX7 87 "TownClocks$Pipe" "lagInAll" "I", Cond.fieldLink RX7 80 "TownClocks$Pipe" "leak" "I", Cond.methodLink RX7 56 yX7_pipeAt, Cond.instanceMethod yX7_pipeAt, Cond.selects RX7 yX7_pipeAt yX7_pipeAt, Cond.initialized RX7, Cond.code yX7_pipeAt cX7_pipeAt 2 (some (.object "TownClocks$Pipe")), Cond.fieldLink RX7 10 "TownClocks" "pipes" "Ljava/util/ArrayList;", Cond.classLink RX7 71 "TownClocks$Pipe", Cond.methodLink RX7 66 yJx4a65c_size_8abf5, Cond.instanceMethod yJx4a65c_size_8abf5, Cond.selects RJx4a65c yJx4a65c_size_8abf5 yJx4a65c_size_8abf5, Cond.initialized RJx4a65c, Cond.code yJx4a65c_size_8abf5 cJx4a65c_size_8abf5 1 (some .int), Cond.fieldLink RJx4a65c 48 "java/util/ArrayList" "size" "I", Cond.methodLink RX7 62 yX7_within, Cond.static yX7_within, Cond.code yX7_within cX7_within 3 (some .boolean), Cond.methodLink RX7 103 yJx4a65c_get_915e3, Cond.instanceMethod yJx4a65c_get_915e3, Cond.selects RJx4a65c yJx4a65c_get_915e3 yJx4a65c_get_915e3, Cond.code yJx4a65c_get_915e3 cJx4a65c_get_915e3 2 (some (.object "java/lang/Object")), Cond.methodLink RJx4a65c 118 yJ15_checkIndex_7cf53]
def wsX7_told_r2 : List Cond := [Cond.static yJ15_checkIndex_7cf53, Cond.initialized RJ15, Cond.code yJ15_checkIndex_7cf53 cJ15_checkIndex_7cf53 2 (some .int), Cond.methodLink RJ15 105 yJ3_checkIndex_8e157, Cond.static yJ3_checkIndex_8e157, Cond.initialized RJ3, Cond.code yJ3_checkIndex_8e157 cJ3_checkIndex_8e157 3 (some .int), Cond.methodLink RJx4a65c 123 yJx4a65c_elementData_915e3, Cond.instanceMethod yJx4a65c_elementData_915e3, Cond.selects RJx4a65c yJx4a65c_elementData_915e3 yJx4a65c_elementData_915e3, Cond.code yJx4a65c_elementData_915e3 cJx4a65c_elementData_915e3 2 (some (.object "java/lang/Object")), Cond.fieldLink RJx4a65c 9 "java/util/ArrayList" "elementData" "[Ljava/lang/Object;", Cond.methodLink RX7 84 yX3_air, Cond.instanceMethod yX3_air, Cond.selects RX3 yX3_air yX3_air, Cond.initialized RX3, Cond.code yX3_air cX3_air 3 (some .int), Cond.fieldLink RX3 28 "TownClocks$Pipe" "leak" "I", Cond.fieldLink RX3 15 "TownClocks$Pipe" "ahead" "LTownClocks$Pipe;", Cond.methodLink RX3 31 yX3_airBehindLeaks, Cond.instanceMethod yX3_airBehindLeaks, Cond.selects RX3 yX3_airBehindLeaks yX3_airBehindLeaks, Cond.code yX3_airBehindLeaks cX3_airBehindLeaks 2 (some .int), Cond.fieldLink RX3 19 "TownClocks$Pipe" "lossInAll" "I"]
def wsX7_told_r3 : List Cond := [Cond.methodLink RX3 35 Lib.Math.max.name, Cond.static Lib.Math.max.name, Cond.initialized "java/lang/Math", Cond.code Lib.Math.max.name Lib.Math.max.code 2 (some .int)]
def wsX7_told : List Cond := .code yX7_told cX7_told 4 (some .int) :: ((wsX7_told_r1 ++ (wsX7_told_r2 ++ wsX7_told_r3)) ++ wsX30 ++ wsX70 ++ wsJx4a65c0)
def wsX7_dial_r1 : List Cond := [Cond.constant RX7 61 (-1000001), Cond.fieldLink RX7 16 "TownClocks" "dials" "Ljava/util/ArrayList;", Cond.constant RX7 70 (-1000003), Cond.classLink RX7 90 RX0, Cond.instantiable RX0 12, Cond.initialized RX0, Cond.methodLink RX7 56 yX7_pipeAt, Cond.instanceMethod yX7_pipeAt, Cond.selects RX7 yX7_pipeAt yX7_pipeAt, Cond.initialized RX7, Cond.code yX7_pipeAt cX7_pipeAt 2 (some (.object "TownClocks$Pipe")), Cond.fieldLink RX7 10 "TownClocks" "pipes" "Ljava/util/ArrayList;", Cond.classLink RX7 71 "TownClocks$Pipe", Cond.methodLink RX7 66 yJx4a65c_size_8abf5, Cond.instanceMethod yJx4a65c_size_8abf5, Cond.selects RJx4a65c yJx4a65c_size_8abf5 yJx4a65c_size_8abf5, Cond.initialized RJx4a65c, Cond.code yJx4a65c_size_8abf5 cJx4a65c_size_8abf5 1 (some .int), Cond.fieldLink RJx4a65c 48 "java/util/ArrayList" "size" "I", Cond.methodLink RX7 62 yX7_within, Cond.static yX7_within, Cond.code yX7_within cX7_within 3 (some .boolean), Cond.methodLink RX7 103 yJx4a65c_get_915e3, Cond.instanceMethod yJx4a65c_get_915e3]
def wsX7_dial_r2 : List Cond := [Cond.selects RJx4a65c yJx4a65c_get_915e3 yJx4a65c_get_915e3, Cond.code yJx4a65c_get_915e3 cJx4a65c_get_915e3 2 (some (.object "java/lang/Object")), Cond.methodLink RJx4a65c 118 yJ15_checkIndex_7cf53, Cond.static yJ15_checkIndex_7cf53, Cond.initialized RJ15, Cond.code yJ15_checkIndex_7cf53 cJ15_checkIndex_7cf53 2 (some .int), Cond.methodLink RJ15 105 yJ3_checkIndex_8e157, Cond.static yJ3_checkIndex_8e157, Cond.initialized RJ3, Cond.code yJ3_checkIndex_8e157 cJ3_checkIndex_8e157 3 (some .int), Cond.methodLink RJx4a65c 123 yJx4a65c_elementData_915e3, Cond.instanceMethod yJx4a65c_elementData_915e3, Cond.selects RJx4a65c yJx4a65c_elementData_915e3 yJx4a65c_elementData_915e3, Cond.code yJx4a65c_elementData_915e3 cJx4a65c_elementData_915e3 2 (some (.object "java/lang/Object")), Cond.fieldLink RJx4a65c 9 "java/util/ArrayList" "elementData" "[Ljava/lang/Object;", Cond.methodLink RX7 92 yX0_init, Cond.instanceMethod yX0_init, Cond.code yX0_init cX0_init 4 none, Cond.methodLink RX0 3 objectInit, Cond.instanceMethod objectInit, Cond.code objectInit ⟨#[0xb1]⟩ 1 none, Cond.fieldLink RX0 9 "TownClocks$Dial" "pipe" "LTownClocks$Pipe;", Cond.fieldLink RX0 15 "TownClocks$Dial" "need" "I", Cond.fieldLink RX0 19 "TownClocks$Dial" "sort" "I"]
def wsX7_dial_r3 : List Cond := [Cond.methodLink RX7 76 yJx4a65c_add_9ea2d, Cond.instanceMethod yJx4a65c_add_9ea2d, Cond.selects RJx4a65c yJx4a65c_add_9ea2d yJx4a65c_add_9ea2d, Cond.code yJx4a65c_add_9ea2d cJx4a65c_add_9ea2d 2 (some .boolean), Cond.fieldLink RJx4a65c 63 "java/util/ArrayList" "modCount" "I", Cond.sameField "java/util/ArrayList" "java/util/AbstractList" "modCount" "I", Cond.methodLink RJx4a65c 131 yJx4a65c_add_72be8, Cond.instanceMethod yJx4a65c_add_72be8, Cond.selects RJx4a65c yJx4a65c_add_72be8 yJx4a65c_add_72be8, Cond.code yJx4a65c_add_72be8 cJx4a65c_add_72be8 4 none, Cond.methodLink RJx4a65c 129 yJx4a65c_grow_d5877, Cond.instanceMethod yJx4a65c_grow_d5877, Cond.selects RJx4a65c yJx4a65c_grow_d5877 yJx4a65c_grow_d5877, Cond.code yJx4a65c_grow_d5877 cJx4a65c_grow_d5877 1 (some (.array (.object "java/lang/Object"))), Cond.methodLink RJx4a65c 69 yJx4a65c_grow_92f84, Cond.instanceMethod yJx4a65c_grow_92f84, Cond.selects RJx4a65c yJx4a65c_grow_92f84 yJx4a65c_grow_92f84, Cond.code yJx4a65c_grow_92f84 cJx4a65c_grow_92f84 4 (some (.array (.object "java/lang/Object"))), Cond.fieldLink RJx4a65c 39 "java/util/ArrayList" "DEFAULTCAPACITY_EMPTY_ELEMENTDATA" "[Ljava/lang/Object;", Cond.methodLink RJx4a65c 79 Lib.Math.max.name, Cond.static Lib.Math.max.name, Cond.initialized "java/lang/Math", Cond.code Lib.Math.max.name Lib.Math.max.code 2 (some .int), Cond.classLink RJx4a65c 7 "java/lang/Object"]
def wsX7_dial_r4 : List Cond := [Cond.methodLink RJx4a65c 73 yJ8_newLength_cabcc, Cond.static yJ8_newLength_cabcc, Cond.initialized RJ8, Cond.code yJ8_newLength_cabcc cJ8_newLength_cabcc 4 (some .int), Cond.methodLink RJ8 194 Lib.Math.max.name, Cond.constant RJ8 200 (2147483639), Cond.methodLink RJ8 201 yJ8_hugeLength_7cf53, Cond.static yJ8_hugeLength_7cf53, Cond.code yJ8_hugeLength_7cf53 cJ8_hugeLength_7cf53 3 (some .int), Cond.methodLink RJx4a65c 66 yJ7_copyOf_1904c, Cond.static yJ7_copyOf_1904c, Cond.initialized RJ7, Cond.code yJ7_copyOf_1904c cJ7_copyOf_1904c 2 (some (.array (.object "java/lang/Object"))), Cond.methodLink RJ7 86 ⟨"java/lang/Object", "getClass", "()Ljava/lang/Class;"⟩, Cond.selects "[Ljava/lang/Object;" ⟨"java/lang/Object", "getClass", "()Ljava/lang/Class;"⟩ ⟨"java/lang/Object", "getClass", "()Ljava/lang/Class;"⟩, Cond.instanceMethod ⟨"java/lang/Object", "getClass", "()Ljava/lang/Class;"⟩, Cond.native ⟨"java/lang/Object", "getClass", "()Ljava/lang/Class;"⟩, Cond.methodLink RJ7 300 yJ7_copyOf_6403c, Cond.static yJ7_copyOf_6403c, Cond.code yJ7_copyOf_6403c cJ7_copyOf_6403c 4 (some (.array (.object "java/lang/Object"))), Cond.classLink RJ7 110 "[Ljava/lang/Object;", Cond.classLink RJ7 2 "java/lang/Object", Cond.methodLink RJ7 304 Lib.Math.min.name, Cond.static Lib.Math.min.name]
def wsX7_dial_r5 : List Cond := [Cond.code Lib.Math.min.name Lib.Math.min.code 2 (some .int), Cond.methodLink RJ7 150 arraycopyName, Cond.native arraycopyName, Cond.static arraycopyName, Cond.initialized "java/lang/System"]
def wsX7_dial : List Cond := .code yX7_dial cX7_dial 6 (some .int) :: ((wsX7_dial_r1 ++ (wsX7_dial_r2 ++ (wsX7_dial_r3 ++ (wsX7_dial_r4 ++ wsX7_dial_r5)))) ++ wsX70 ++ wsX00 ++ wsJx4a65c0)
def wsX7_puff_r1 : List Cond := [Cond.fieldLink RX7 22 "TownClocks" "master" "LTownClocks$Master;", Cond.fieldLink RX7 95 "TownClocks$Master" "minute" "I", Cond.constant RX7 98 (100000), Cond.constant RX7 99 (-1000002), Cond.fieldLink RX7 16 "TownClocks" "dials" "Ljava/util/ArrayList;", Cond.classLink RX7 90 "TownClocks$Dial", Cond.fieldLink RX7 111 "TownClocks" "missedLatest" "I", Cond.methodLink RX7 100 yX2_tellMinute, Cond.instanceMethod yX2_tellMinute, Cond.selects RX2 yX2_tellMinute yX2_tellMinute, Cond.initialized RX2, Cond.code yX2_tellMinute cX2_tellMinute 1 none, Cond.fieldLink RX2 7 "TownClocks$Master" "minute" "I", Cond.fieldLink RX2 13 "TownClocks$Master" "minutesSinceSighting" "J", Cond.fieldLink RX2 17 "TownClocks$Master" "off" "J", Cond.fieldLink RX2 20 "TownClocks$Master" "drift" "I", Cond.methodLink RX7 66 yJx4a65c_size_8abf5, Cond.instanceMethod yJx4a65c_size_8abf5, Cond.selects RJx4a65c yJx4a65c_size_8abf5 yJx4a65c_size_8abf5, Cond.initialized RJx4a65c, Cond.code yJx4a65c_size_8abf5 cJx4a65c_size_8abf5 1 (some .int), Cond.fieldLink RJx4a65c 48 "java/util/ArrayList" "size" "I", Cond.methodLink RX7 103 yJx4a65c_get_915e3, Cond.instanceMethod yJx4a65c_get_915e3]
def wsX7_puff_r2 : List Cond := [Cond.selects RJx4a65c yJx4a65c_get_915e3 yJx4a65c_get_915e3, Cond.code yJx4a65c_get_915e3 cJx4a65c_get_915e3 2 (some (.object "java/lang/Object")), Cond.methodLink RJx4a65c 118 yJ15_checkIndex_7cf53, Cond.static yJ15_checkIndex_7cf53, Cond.initialized RJ15, Cond.code yJ15_checkIndex_7cf53 cJ15_checkIndex_7cf53 2 (some .int), Cond.methodLink RJ15 105 yJ3_checkIndex_8e157, Cond.static yJ3_checkIndex_8e157, Cond.initialized RJ3, Cond.code yJ3_checkIndex_8e157 cJ3_checkIndex_8e157 3 (some .int), Cond.methodLink RJx4a65c 123 yJx4a65c_elementData_915e3, Cond.instanceMethod yJx4a65c_elementData_915e3, Cond.selects RJx4a65c yJx4a65c_elementData_915e3 yJx4a65c_elementData_915e3, Cond.code yJx4a65c_elementData_915e3 cJx4a65c_elementData_915e3 2 (some (.object "java/lang/Object")), Cond.fieldLink RJx4a65c 9 "java/util/ArrayList" "elementData" "[Ljava/lang/Object;", Cond.methodLink RX7 107 yX0_takePuff, Cond.instanceMethod yX0_takePuff, Cond.selects RX0 yX0_takePuff yX0_takePuff, Cond.initialized RX0, Cond.code yX0_takePuff cX0_takePuff 2 (some .boolean), Cond.fieldLink RX0 9 "TownClocks$Dial" "pipe" "LTownClocks$Pipe;", Cond.fieldLink RX0 15 "TownClocks$Dial" "need" "I", Cond.fieldLink RX0 28 "TownClocks$Dial" "puffsSinceKnown" "I", Cond.fieldLink RX0 31 "TownClocks$Dial" "missedRunning" "I"]
def wsX7_puff_r3 : List Cond := [Cond.fieldLink RX0 34 "TownClocks$Dial" "late" "I", Cond.fieldLink RX0 41 "TownClocks$Dial" "owed" "I", Cond.fieldLink RX0 44 "TownClocks$Dial" "pays" "I", Cond.methodLink RX0 22 yX3_air, Cond.instanceMethod yX3_air, Cond.selects RX3 yX3_air yX3_air, Cond.initialized RX3, Cond.code yX3_air cX3_air 3 (some .int), Cond.fieldLink RX3 28 "TownClocks$Pipe" "leak" "I", Cond.fieldLink RX3 15 "TownClocks$Pipe" "ahead" "LTownClocks$Pipe;", Cond.methodLink RX3 31 yX3_airBehindLeaks, Cond.instanceMethod yX3_airBehindLeaks, Cond.selects RX3 yX3_airBehindLeaks yX3_airBehindLeaks, Cond.code yX3_airBehindLeaks cX3_airBehindLeaks 2 (some .int), Cond.fieldLink RX3 19 "TownClocks$Pipe" "lossInAll" "I", Cond.methodLink RX3 35 Lib.Math.max.name, Cond.static Lib.Math.max.name, Cond.initialized "java/lang/Math", Cond.code Lib.Math.max.name Lib.Math.max.code 2 (some .int), Cond.methodLink RX0 37 yX0_isPaidFor, Cond.instanceMethod yX0_isPaidFor, Cond.selects RX0 yX0_isPaidFor yX0_isPaidFor, Cond.code yX0_isPaidFor cX0_isPaidFor 2 (some .boolean), Cond.fieldLink RX0 47 "TownClocks$Dial" "terms" "I"]
def wsX7_puff_r4 : List Cond := [Cond.fieldLink RX0 50 "TownClocks$Dial" "below" "I"]
def wsX7_puff : List Cond := .code yX7_puff cX7_puff 3 (some .int) :: ((wsX7_puff_r1 ++ (wsX7_puff_r2 ++ (wsX7_puff_r3 ++ wsX7_puff_r4))) ++ wsX70 ++ wsX20 ++ wsJx4a65c0 ++ wsX00 ++ wsX30)
def wsX7_drift : List Cond := .code yX7_drift cX7_drift 3 (some .int) :: ([.constant RX7 61 (-1000001), .fieldLink RX7 22 "TownClocks" "master" "LTownClocks$Master;", .fieldLink RX7 114 "TownClocks$Master" "drift" "I", .methodLink RX7 62 yX7_within, .static yX7_within, .initialized RX7, .code yX7_within cX7_within 3 (some .boolean)] ++ wsX70 ++ wsX20)
def wsX7_sight : List Cond := .code yX7_sight cX7_sight 1 (some .long) :: ([.fieldLink RX7 22 "TownClocks" "master" "LTownClocks$Master;", .methodLink RX7 117 yX2_putRightByStars, .instanceMethod yX2_putRightByStars, .selects RX2 yX2_putRightByStars yX2_putRightByStars, .initialized RX2, .code yX2_putRightByStars cX2_putRightByStars 3 (some .long), .fieldLink RX2 17 "TownClocks$Master" "off" "J", .fieldLink RX2 13 "TownClocks$Master" "minutesSinceSighting" "J", .fieldLink RX2 23 "TownClocks$Master" "sightings" "I"] ++ wsX70 ++ wsX20)
def wsX7_now : List Cond := .code yX7_now cX7_now 2 (some .long) :: ([.fieldLink RX7 22 "TownClocks" "master" "LTownClocks$Master;", .fieldLink RX7 95 "TownClocks$Master" "minute" "I", .fieldLink RX7 121 "TownClocks$Master" "off" "J", .constantLong RX7 125 (-5), .fieldLink RX7 127 "TownClocks$Master" "minutesSinceSighting" "J", .constantLong RX7 130 (5), .fieldLink RX7 132 "TownClocks$Master" "sightings" "I", .constantLong RX7 135 (-1000001)] ++ wsX70 ++ wsX20)
def wsX7_dialAt_r1 : List Cond := [Cond.fieldLink RX7 16 "TownClocks" "dials" "Ljava/util/ArrayList;", Cond.classLink RX7 90 "TownClocks$Dial", Cond.methodLink RX7 66 yJx4a65c_size_8abf5, Cond.instanceMethod yJx4a65c_size_8abf5, Cond.selects RJx4a65c yJx4a65c_size_8abf5 yJx4a65c_size_8abf5, Cond.initialized RJx4a65c, Cond.code yJx4a65c_size_8abf5 cJx4a65c_size_8abf5 1 (some .int), Cond.fieldLink RJx4a65c 48 "java/util/ArrayList" "size" "I", Cond.methodLink RX7 62 yX7_within, Cond.static yX7_within, Cond.initialized RX7, Cond.code yX7_within cX7_within 3 (some .boolean), Cond.methodLink RX7 103 yJx4a65c_get_915e3, Cond.instanceMethod yJx4a65c_get_915e3, Cond.selects RJx4a65c yJx4a65c_get_915e3 yJx4a65c_get_915e3, Cond.code yJx4a65c_get_915e3 cJx4a65c_get_915e3 2 (some (.object "java/lang/Object")), Cond.methodLink RJx4a65c 118 yJ15_checkIndex_7cf53, Cond.static yJ15_checkIndex_7cf53, Cond.initialized RJ15, Cond.code yJ15_checkIndex_7cf53 cJ15_checkIndex_7cf53 2 (some .int), Cond.methodLink RJ15 105 yJ3_checkIndex_8e157, Cond.static yJ3_checkIndex_8e157, Cond.initialized RJ3, Cond.code yJ3_checkIndex_8e157 cJ3_checkIndex_8e157 3 (some .int)]
def wsX7_dialAt_r2 : List Cond := [Cond.methodLink RJx4a65c 123 yJx4a65c_elementData_915e3, Cond.instanceMethod yJx4a65c_elementData_915e3, Cond.selects RJx4a65c yJx4a65c_elementData_915e3 yJx4a65c_elementData_915e3, Cond.code yJx4a65c_elementData_915e3 cJx4a65c_elementData_915e3 2 (some (.object "java/lang/Object")), Cond.fieldLink RJx4a65c 9 "java/util/ArrayList" "elementData" "[Ljava/lang/Object;"]
def wsX7_dialAt : List Cond := .code yX7_dialAt cX7_dialAt 2 (some (.object "TownClocks$Dial")) :: ((wsX7_dialAt_r1 ++ wsX7_dialAt_r2) ++ wsX70 ++ wsJx4a65c0)
def wsX7_look_r1 : List Cond := [Cond.constant RX7 61 (-1000001), Cond.fieldLink RX7 144 "TownClocks$Dial" "late" "I", Cond.methodLink RX7 137 yX7_dialAt, Cond.instanceMethod yX7_dialAt, Cond.selects RX7 yX7_dialAt yX7_dialAt, Cond.initialized RX7, Cond.code yX7_dialAt cX7_dialAt 2 (some (.object "TownClocks$Dial")), Cond.fieldLink RX7 16 "TownClocks" "dials" "Ljava/util/ArrayList;", Cond.classLink RX7 90 "TownClocks$Dial", Cond.methodLink RX7 66 yJx4a65c_size_8abf5, Cond.instanceMethod yJx4a65c_size_8abf5, Cond.selects RJx4a65c yJx4a65c_size_8abf5 yJx4a65c_size_8abf5, Cond.initialized RJx4a65c, Cond.code yJx4a65c_size_8abf5 cJx4a65c_size_8abf5 1 (some .int), Cond.fieldLink RJx4a65c 48 "java/util/ArrayList" "size" "I", Cond.methodLink RX7 62 yX7_within, Cond.static yX7_within, Cond.code yX7_within cX7_within 3 (some .boolean), Cond.methodLink RX7 103 yJx4a65c_get_915e3, Cond.instanceMethod yJx4a65c_get_915e3, Cond.selects RJx4a65c yJx4a65c_get_915e3 yJx4a65c_get_915e3, Cond.code yJx4a65c_get_915e3 cJx4a65c_get_915e3 2 (some (.object "java/lang/Object")), Cond.methodLink RJx4a65c 118 yJ15_checkIndex_7cf53, Cond.static yJ15_checkIndex_7cf53]
def wsX7_look_r2 : List Cond := [Cond.initialized RJ15, Cond.code yJ15_checkIndex_7cf53 cJ15_checkIndex_7cf53 2 (some .int), Cond.methodLink RJ15 105 yJ3_checkIndex_8e157, Cond.static yJ3_checkIndex_8e157, Cond.initialized RJ3, Cond.code yJ3_checkIndex_8e157 cJ3_checkIndex_8e157 3 (some .int), Cond.methodLink RJx4a65c 123 yJx4a65c_elementData_915e3, Cond.instanceMethod yJx4a65c_elementData_915e3, Cond.selects RJx4a65c yJx4a65c_elementData_915e3 yJx4a65c_elementData_915e3, Cond.code yJx4a65c_elementData_915e3 cJx4a65c_elementData_915e3 2 (some (.object "java/lang/Object")), Cond.fieldLink RJx4a65c 9 "java/util/ArrayList" "elementData" "[Ljava/lang/Object;", Cond.methodLink RX7 141 yX0_becomeKnown, Cond.instanceMethod yX0_becomeKnown, Cond.selects RX0 yX0_becomeKnown yX0_becomeKnown, Cond.initialized RX0, Cond.code yX0_becomeKnown cX0_becomeKnown 1 none, Cond.fieldLink RX0 34 "TownClocks$Dial" "late" "I", Cond.fieldLink RX0 53 "TownClocks$Dial" "knownLeast" "I", Cond.fieldLink RX0 28 "TownClocks$Dial" "puffsSinceKnown" "I"]
def wsX7_look : List Cond := .code yX7_look cX7_look 3 (some .int) :: ((wsX7_look_r1 ++ wsX7_look_r2) ++ wsX00 ++ wsX70 ++ wsJx4a65c0)
def wsX7_state_r1 : List Cond := [Cond.constant RX7 61 (-1000001), Cond.fieldLink RX7 144 "TownClocks$Dial" "late" "I", Cond.fieldLink RX7 147 "TownClocks$Dial" "knownLeast" "I", Cond.fieldLink RX7 150 "TownClocks$Dial" "puffsSinceKnown" "I", Cond.fieldLink RX7 153 "TownClocks$Dial" "missedRunning" "I", Cond.fieldLink RX7 156 "TownClocks$Dial" "pipe" "LTownClocks$Pipe;", Cond.fieldLink RX7 160 "TownClocks$Pipe" "number" "I", Cond.fieldLink RX7 163 "TownClocks$Dial" "need" "I", Cond.methodLink RX7 137 yX7_dialAt, Cond.instanceMethod yX7_dialAt, Cond.selects RX7 yX7_dialAt yX7_dialAt, Cond.initialized RX7, Cond.code yX7_dialAt cX7_dialAt 2 (some (.object "TownClocks$Dial")), Cond.fieldLink RX7 16 "TownClocks" "dials" "Ljava/util/ArrayList;", Cond.classLink RX7 90 "TownClocks$Dial", Cond.methodLink RX7 66 yJx4a65c_size_8abf5, Cond.instanceMethod yJx4a65c_size_8abf5, Cond.selects RJx4a65c yJx4a65c_size_8abf5 yJx4a65c_size_8abf5, Cond.initialized RJx4a65c, Cond.code yJx4a65c_size_8abf5 cJx4a65c_size_8abf5 1 (some .int), Cond.fieldLink RJx4a65c 48 "java/util/ArrayList" "size" "I", Cond.methodLink RX7 62 yX7_within, Cond.static yX7_within, Cond.code yX7_within cX7_within 3 (some .boolean)]
def wsX7_state_r2 : List Cond := [Cond.methodLink RX7 103 yJx4a65c_get_915e3, Cond.instanceMethod yJx4a65c_get_915e3, Cond.selects RJx4a65c yJx4a65c_get_915e3 yJx4a65c_get_915e3, Cond.code yJx4a65c_get_915e3 cJx4a65c_get_915e3 2 (some (.object "java/lang/Object")), Cond.methodLink RJx4a65c 118 yJ15_checkIndex_7cf53, Cond.static yJ15_checkIndex_7cf53, Cond.initialized RJ15, Cond.code yJ15_checkIndex_7cf53 cJ15_checkIndex_7cf53 2 (some .int), Cond.methodLink RJ15 105 yJ3_checkIndex_8e157, Cond.static yJ3_checkIndex_8e157, Cond.initialized RJ3, Cond.code yJ3_checkIndex_8e157 cJ3_checkIndex_8e157 3 (some .int), Cond.methodLink RJx4a65c 123 yJx4a65c_elementData_915e3, Cond.instanceMethod yJx4a65c_elementData_915e3, Cond.selects RJx4a65c yJx4a65c_elementData_915e3 yJx4a65c_elementData_915e3, Cond.code yJx4a65c_elementData_915e3 cJx4a65c_elementData_915e3 2 (some (.object "java/lang/Object")), Cond.fieldLink RJx4a65c 9 "java/util/ArrayList" "elementData" "[Ljava/lang/Object;"]
def wsX7_state : List Cond := .code yX7_state cX7_state 4 (some .int) :: ((wsX7_state_r1 ++ wsX7_state_r2) ++ wsX00 ++ wsX30 ++ wsX70 ++ wsJx4a65c0)
def wsX7_put_r1 : List Cond := [Cond.constant RX7 61 (-1000001), Cond.fieldLink RX7 144 "TownClocks$Dial" "late" "I", Cond.methodLink RX7 137 yX7_dialAt, Cond.instanceMethod yX7_dialAt, Cond.selects RX7 yX7_dialAt yX7_dialAt, Cond.initialized RX7, Cond.code yX7_dialAt cX7_dialAt 2 (some (.object "TownClocks$Dial")), Cond.fieldLink RX7 16 "TownClocks" "dials" "Ljava/util/ArrayList;", Cond.classLink RX7 90 "TownClocks$Dial", Cond.methodLink RX7 66 yJx4a65c_size_8abf5, Cond.instanceMethod yJx4a65c_size_8abf5, Cond.selects RJx4a65c yJx4a65c_size_8abf5 yJx4a65c_size_8abf5, Cond.initialized RJx4a65c, Cond.code yJx4a65c_size_8abf5 cJx4a65c_size_8abf5 1 (some .int), Cond.fieldLink RJx4a65c 48 "java/util/ArrayList" "size" "I", Cond.methodLink RX7 62 yX7_within, Cond.static yX7_within, Cond.code yX7_within cX7_within 3 (some .boolean), Cond.methodLink RX7 103 yJx4a65c_get_915e3, Cond.instanceMethod yJx4a65c_get_915e3, Cond.selects RJx4a65c yJx4a65c_get_915e3 yJx4a65c_get_915e3, Cond.code yJx4a65c_get_915e3 cJx4a65c_get_915e3 2 (some (.object "java/lang/Object")), Cond.methodLink RJx4a65c 118 yJ15_checkIndex_7cf53, Cond.static yJ15_checkIndex_7cf53]
def wsX7_put_r2 : List Cond := [Cond.initialized RJ15, Cond.code yJ15_checkIndex_7cf53 cJ15_checkIndex_7cf53 2 (some .int), Cond.methodLink RJ15 105 yJ3_checkIndex_8e157, Cond.static yJ3_checkIndex_8e157, Cond.initialized RJ3, Cond.code yJ3_checkIndex_8e157 cJ3_checkIndex_8e157 3 (some .int), Cond.methodLink RJx4a65c 123 yJx4a65c_elementData_915e3, Cond.instanceMethod yJx4a65c_elementData_915e3, Cond.selects RJx4a65c yJx4a65c_elementData_915e3 yJx4a65c_elementData_915e3, Cond.code yJx4a65c_elementData_915e3 cJx4a65c_elementData_915e3 2 (some (.object "java/lang/Object")), Cond.fieldLink RJx4a65c 9 "java/util/ArrayList" "elementData" "[Ljava/lang/Object;", Cond.methodLink RX7 166 yX0_putOn, Cond.instanceMethod yX0_putOn, Cond.selects RX0 yX0_putOn yX0_putOn, Cond.initialized RX0, Cond.code yX0_putOn cX0_putOn 2 none, Cond.fieldLink RX0 34 "TownClocks$Dial" "late" "I", Cond.fieldLink RX0 53 "TownClocks$Dial" "knownLeast" "I"]
def wsX7_put : List Cond := .code yX7_put cX7_put 4 (some .int) :: ((wsX7_put_r1 ++ wsX7_put_r2) ++ wsX00 ++ wsX70 ++ wsJx4a65c0)
def wsX7_right_r1 : List Cond := [Cond.constant RX7 61 (-1000001), Cond.fieldLink RX7 144 "TownClocks$Dial" "late" "I", Cond.methodLink RX7 137 yX7_dialAt, Cond.instanceMethod yX7_dialAt, Cond.selects RX7 yX7_dialAt yX7_dialAt, Cond.initialized RX7, Cond.code yX7_dialAt cX7_dialAt 2 (some (.object "TownClocks$Dial")), Cond.fieldLink RX7 16 "TownClocks" "dials" "Ljava/util/ArrayList;", Cond.classLink RX7 90 "TownClocks$Dial", Cond.methodLink RX7 66 yJx4a65c_size_8abf5, Cond.instanceMethod yJx4a65c_size_8abf5, Cond.selects RJx4a65c yJx4a65c_size_8abf5 yJx4a65c_size_8abf5, Cond.initialized RJx4a65c, Cond.code yJx4a65c_size_8abf5 cJx4a65c_size_8abf5 1 (some .int), Cond.fieldLink RJx4a65c 48 "java/util/ArrayList" "size" "I", Cond.methodLink RX7 62 yX7_within, Cond.static yX7_within, Cond.code yX7_within cX7_within 3 (some .boolean), Cond.methodLink RX7 103 yJx4a65c_get_915e3, Cond.instanceMethod yJx4a65c_get_915e3, Cond.selects RJx4a65c yJx4a65c_get_915e3 yJx4a65c_get_915e3, Cond.code yJx4a65c_get_915e3 cJx4a65c_get_915e3 2 (some (.object "java/lang/Object")), Cond.methodLink RJx4a65c 118 yJ15_checkIndex_7cf53, Cond.static yJ15_checkIndex_7cf53]
def wsX7_right_r2 : List Cond := [Cond.initialized RJ15, Cond.code yJ15_checkIndex_7cf53 cJ15_checkIndex_7cf53 2 (some .int), Cond.methodLink RJ15 105 yJ3_checkIndex_8e157, Cond.static yJ3_checkIndex_8e157, Cond.initialized RJ3, Cond.code yJ3_checkIndex_8e157 cJ3_checkIndex_8e157 3 (some .int), Cond.methodLink RJx4a65c 123 yJx4a65c_elementData_915e3, Cond.instanceMethod yJx4a65c_elementData_915e3, Cond.selects RJx4a65c yJx4a65c_elementData_915e3 yJx4a65c_elementData_915e3, Cond.code yJx4a65c_elementData_915e3 cJx4a65c_elementData_915e3 2 (some (.object "java/lang/Object")), Cond.fieldLink RJx4a65c 9 "java/util/ArrayList" "elementData" "[Ljava/lang/Object;", Cond.methodLink RX7 170 yX0_putRight, Cond.instanceMethod yX0_putRight, Cond.selects RX0 yX0_putRight yX0_putRight, Cond.initialized RX0, Cond.code yX0_putRight cX0_putRight 1 none, Cond.fieldLink RX0 34 "TownClocks$Dial" "late" "I", Cond.fieldLink RX0 31 "TownClocks$Dial" "missedRunning" "I", Cond.methodLink RX0 56 yX0_becomeKnown, Cond.instanceMethod yX0_becomeKnown, Cond.selects RX0 yX0_becomeKnown yX0_becomeKnown, Cond.code yX0_becomeKnown cX0_becomeKnown 1 none, Cond.fieldLink RX0 53 "TownClocks$Dial" "knownLeast" "I", Cond.fieldLink RX0 28 "TownClocks$Dial" "puffsSinceKnown" "I"]
def wsX7_right : List Cond := .code yX7_right cX7_right 4 (some .int) :: ((wsX7_right_r1 ++ wsX7_right_r2) ++ wsX00 ++ wsX70 ++ wsJx4a65c0)
def wsX7_mostWrongDial_r1 : List Cond := [Cond.fieldLink RX7 16 "TownClocks" "dials" "Ljava/util/ArrayList;", Cond.classLink RX7 90 "TownClocks$Dial", Cond.fieldLink RX7 144 "TownClocks$Dial" "late" "I", Cond.methodLink RX7 255 Lib.Math.abs.name, Cond.static Lib.Math.abs.name, Cond.initialized "java/lang/Math", Cond.code Lib.Math.abs.name Lib.Math.abs.code 1 (some .int), Cond.methodLink RX7 66 yJx4a65c_size_8abf5, Cond.instanceMethod yJx4a65c_size_8abf5, Cond.selects RJx4a65c yJx4a65c_size_8abf5 yJx4a65c_size_8abf5, Cond.initialized RJx4a65c, Cond.code yJx4a65c_size_8abf5 cJx4a65c_size_8abf5 1 (some .int), Cond.fieldLink RJx4a65c 48 "java/util/ArrayList" "size" "I", Cond.methodLink RX7 103 yJx4a65c_get_915e3, Cond.instanceMethod yJx4a65c_get_915e3, Cond.selects RJx4a65c yJx4a65c_get_915e3 yJx4a65c_get_915e3, Cond.code yJx4a65c_get_915e3 cJx4a65c_get_915e3 2 (some (.object "java/lang/Object")), Cond.methodLink RJx4a65c 118 yJ15_checkIndex_7cf53, Cond.static yJ15_checkIndex_7cf53, Cond.initialized RJ15, Cond.code yJ15_checkIndex_7cf53 cJ15_checkIndex_7cf53 2 (some .int), Cond.methodLink RJ15 105 yJ3_checkIndex_8e157, Cond.static yJ3_checkIndex_8e157, Cond.initialized RJ3]
def wsX7_mostWrongDial_r2 : List Cond := [Cond.code yJ3_checkIndex_8e157 cJ3_checkIndex_8e157 3 (some .int), Cond.methodLink RJx4a65c 123 yJx4a65c_elementData_915e3, Cond.instanceMethod yJx4a65c_elementData_915e3, Cond.selects RJx4a65c yJx4a65c_elementData_915e3 yJx4a65c_elementData_915e3, Cond.code yJx4a65c_elementData_915e3 cJx4a65c_elementData_915e3 2 (some (.object "java/lang/Object")), Cond.fieldLink RJx4a65c 9 "java/util/ArrayList" "elementData" "[Ljava/lang/Object;"]
def wsX7_mostWrongDial : List Cond := .code yX7_mostWrongDial cX7_mostWrongDial 5 (some (.object "TownClocks$Dial")) :: ((wsX7_mostWrongDial_r1 ++ wsX7_mostWrongDial_r2) ++ wsX70 ++ wsX00 ++ wsJx4a65c0)
def wsX7_round_r1 : List Cond := [Cond.constant RX7 61 (-1000001), Cond.methodLink RX7 62 yX7_within, Cond.static yX7_within, Cond.initialized RX7, Cond.code yX7_within cX7_within 3 (some .boolean), Cond.methodLink RX7 173 yX7_mostWrongDial, Cond.instanceMethod yX7_mostWrongDial, Cond.selects RX7 yX7_mostWrongDial yX7_mostWrongDial, Cond.code yX7_mostWrongDial cX7_mostWrongDial 5 (some (.object "TownClocks$Dial")), Cond.fieldLink RX7 16 "TownClocks" "dials" "Ljava/util/ArrayList;", Cond.classLink RX7 90 "TownClocks$Dial", Cond.fieldLink RX7 144 "TownClocks$Dial" "late" "I", Cond.methodLink RX7 255 Lib.Math.abs.name, Cond.static Lib.Math.abs.name, Cond.initialized "java/lang/Math", Cond.code Lib.Math.abs.name Lib.Math.abs.code 1 (some .int), Cond.methodLink RX7 66 yJx4a65c_size_8abf5, Cond.instanceMethod yJx4a65c_size_8abf5, Cond.selects RJx4a65c yJx4a65c_size_8abf5 yJx4a65c_size_8abf5, Cond.initialized RJx4a65c, Cond.code yJx4a65c_size_8abf5 cJx4a65c_size_8abf5 1 (some .int), Cond.fieldLink RJx4a65c 48 "java/util/ArrayList" "size" "I", Cond.methodLink RX7 103 yJx4a65c_get_915e3, Cond.instanceMethod yJx4a65c_get_915e3]
def wsX7_round_r2 : List Cond := [Cond.selects RJx4a65c yJx4a65c_get_915e3 yJx4a65c_get_915e3, Cond.code yJx4a65c_get_915e3 cJx4a65c_get_915e3 2 (some (.object "java/lang/Object")), Cond.methodLink RJx4a65c 118 yJ15_checkIndex_7cf53, Cond.static yJ15_checkIndex_7cf53, Cond.initialized RJ15, Cond.code yJ15_checkIndex_7cf53 cJ15_checkIndex_7cf53 2 (some .int), Cond.methodLink RJ15 105 yJ3_checkIndex_8e157, Cond.static yJ3_checkIndex_8e157, Cond.initialized RJ3, Cond.code yJ3_checkIndex_8e157 cJ3_checkIndex_8e157 3 (some .int), Cond.methodLink RJx4a65c 123 yJx4a65c_elementData_915e3, Cond.instanceMethod yJx4a65c_elementData_915e3, Cond.selects RJx4a65c yJx4a65c_elementData_915e3 yJx4a65c_elementData_915e3, Cond.code yJx4a65c_elementData_915e3 cJx4a65c_elementData_915e3 2 (some (.object "java/lang/Object")), Cond.fieldLink RJx4a65c 9 "java/util/ArrayList" "elementData" "[Ljava/lang/Object;", Cond.methodLink RX7 170 yX0_putRight, Cond.instanceMethod yX0_putRight, Cond.selects RX0 yX0_putRight yX0_putRight, Cond.initialized RX0, Cond.code yX0_putRight cX0_putRight 1 none, Cond.fieldLink RX0 34 "TownClocks$Dial" "late" "I", Cond.fieldLink RX0 31 "TownClocks$Dial" "missedRunning" "I", Cond.methodLink RX0 56 yX0_becomeKnown, Cond.instanceMethod yX0_becomeKnown]
def wsX7_round_r3 : List Cond := [Cond.selects RX0 yX0_becomeKnown yX0_becomeKnown, Cond.code yX0_becomeKnown cX0_becomeKnown 1 none, Cond.fieldLink RX0 53 "TownClocks$Dial" "knownLeast" "I", Cond.fieldLink RX0 28 "TownClocks$Dial" "puffsSinceKnown" "I"]
def wsX7_round : List Cond := .code yX7_round cX7_round 4 (some .int) :: ((wsX7_round_r1 ++ (wsX7_round_r2 ++ wsX7_round_r3)) ++ wsX70 ++ wsX00 ++ wsJx4a65c0)
def wsX7_isOfKind : List Cond := .code yX7_isOfKind cX7_isOfKind 2 (some .boolean) :: ([])
def wsX7_ahead_r1 : List Cond := [Cond.constant RX7 61 (-1000001), Cond.constant RX7 184 (-1000004), Cond.fieldLink RX7 156 "TownClocks$Dial" "pipe" "LTownClocks$Pipe;", Cond.fieldLink RX7 87 "TownClocks$Pipe" "lagInAll" "I", Cond.methodLink RX7 137 yX7_dialAt, Cond.instanceMethod yX7_dialAt, Cond.selects RX7 yX7_dialAt yX7_dialAt, Cond.initialized RX7, Cond.code yX7_dialAt cX7_dialAt 2 (some (.object "TownClocks$Dial")), Cond.fieldLink RX7 16 "TownClocks" "dials" "Ljava/util/ArrayList;", Cond.classLink RX7 90 "TownClocks$Dial", Cond.methodLink RX7 66 yJx4a65c_size_8abf5, Cond.instanceMethod yJx4a65c_size_8abf5, Cond.selects RJx4a65c yJx4a65c_size_8abf5 yJx4a65c_size_8abf5, Cond.initialized RJx4a65c, Cond.code yJx4a65c_size_8abf5 cJx4a65c_size_8abf5 1 (some .int), Cond.fieldLink RJx4a65c 48 "java/util/ArrayList" "size" "I", Cond.methodLink RX7 62 yX7_within, Cond.static yX7_within, Cond.code yX7_within cX7_within 3 (some .boolean), Cond.methodLink RX7 103 yJx4a65c_get_915e3, Cond.instanceMethod yJx4a65c_get_915e3, Cond.selects RJx4a65c yJx4a65c_get_915e3 yJx4a65c_get_915e3, Cond.code yJx4a65c_get_915e3 cJx4a65c_get_915e3 2 (some (.object "java/lang/Object"))]
def wsX7_ahead_r2 : List Cond := [Cond.methodLink RJx4a65c 118 yJ15_checkIndex_7cf53, Cond.static yJ15_checkIndex_7cf53, Cond.initialized RJ15, Cond.code yJ15_checkIndex_7cf53 cJ15_checkIndex_7cf53 2 (some .int), Cond.methodLink RJ15 105 yJ3_checkIndex_8e157, Cond.static yJ3_checkIndex_8e157, Cond.initialized RJ3, Cond.code yJ3_checkIndex_8e157 cJ3_checkIndex_8e157 3 (some .int), Cond.methodLink RJx4a65c 123 yJx4a65c_elementData_915e3, Cond.instanceMethod yJx4a65c_elementData_915e3, Cond.selects RJx4a65c yJx4a65c_elementData_915e3 yJx4a65c_elementData_915e3, Cond.code yJx4a65c_elementData_915e3 cJx4a65c_elementData_915e3 2 (some (.object "java/lang/Object")), Cond.fieldLink RJx4a65c 9 "java/util/ArrayList" "elementData" "[Ljava/lang/Object;", Cond.methodLink RX7 177 yX0_toldKind, Cond.instanceMethod yX0_toldKind, Cond.selects RX0 yX0_toldKind yX0_toldKind, Cond.initialized RX0, Cond.code yX0_toldKind cX0_toldKind 1 (some .int), Cond.fieldLink RX0 31 "TownClocks$Dial" "missedRunning" "I", Cond.fieldLink RX0 19 "TownClocks$Dial" "sort" "I", Cond.methodLink RX7 180 yX7_isOfKind, Cond.static yX7_isOfKind, Cond.code yX7_isOfKind cX7_isOfKind 2 (some .boolean)]
def wsX7_ahead : List Cond := .code yX7_ahead cX7_ahead 4 (some .int) :: ((wsX7_ahead_r1 ++ wsX7_ahead_r2) ++ wsX00 ++ wsX30 ++ wsX70 ++ wsJx4a65c0)
def wsX7_mark_r1 : List Cond := [Cond.constant RX7 61 (-1000001), Cond.fieldLink RX7 185 "TownClocks$Dial" "marked" "Z", Cond.fieldLink RX7 16 "TownClocks" "dials" "Ljava/util/ArrayList;", Cond.classLink RX7 90 "TownClocks$Dial", Cond.methodLink RX7 137 yX7_dialAt, Cond.instanceMethod yX7_dialAt, Cond.selects RX7 yX7_dialAt yX7_dialAt, Cond.initialized RX7, Cond.code yX7_dialAt cX7_dialAt 2 (some (.object "TownClocks$Dial")), Cond.methodLink RX7 66 yJx4a65c_size_8abf5, Cond.instanceMethod yJx4a65c_size_8abf5, Cond.selects RJx4a65c yJx4a65c_size_8abf5 yJx4a65c_size_8abf5, Cond.initialized RJx4a65c, Cond.code yJx4a65c_size_8abf5 cJx4a65c_size_8abf5 1 (some .int), Cond.fieldLink RJx4a65c 48 "java/util/ArrayList" "size" "I", Cond.methodLink RX7 62 yX7_within, Cond.static yX7_within, Cond.code yX7_within cX7_within 3 (some .boolean), Cond.methodLink RX7 103 yJx4a65c_get_915e3, Cond.instanceMethod yJx4a65c_get_915e3, Cond.selects RJx4a65c yJx4a65c_get_915e3 yJx4a65c_get_915e3, Cond.code yJx4a65c_get_915e3 cJx4a65c_get_915e3 2 (some (.object "java/lang/Object")), Cond.methodLink RJx4a65c 118 yJ15_checkIndex_7cf53, Cond.static yJ15_checkIndex_7cf53]
def wsX7_mark_r2 : List Cond := [Cond.initialized RJ15, Cond.code yJ15_checkIndex_7cf53 cJ15_checkIndex_7cf53 2 (some .int), Cond.methodLink RJ15 105 yJ3_checkIndex_8e157, Cond.static yJ3_checkIndex_8e157, Cond.initialized RJ3, Cond.code yJ3_checkIndex_8e157 cJ3_checkIndex_8e157 3 (some .int), Cond.methodLink RJx4a65c 123 yJx4a65c_elementData_915e3, Cond.instanceMethod yJx4a65c_elementData_915e3, Cond.selects RJx4a65c yJx4a65c_elementData_915e3 yJx4a65c_elementData_915e3, Cond.code yJx4a65c_elementData_915e3 cJx4a65c_elementData_915e3 2 (some (.object "java/lang/Object")), Cond.fieldLink RJx4a65c 9 "java/util/ArrayList" "elementData" "[Ljava/lang/Object;"]
def wsX7_mark : List Cond := .code yX7_mark cX7_mark 6 (some .int) :: ((wsX7_mark_r1 ++ wsX7_mark_r2) ++ wsX00 ++ wsX70 ++ wsJx4a65c0)
def wsX7_explains_r1 : List Cond := [Cond.constant RX7 61 (-1000001), Cond.fieldLink RX7 29 "TownClocks" "explanations" "LTownClocks$Explanations;", Cond.fieldLink RX7 10 "TownClocks" "pipes" "Ljava/util/ArrayList;", Cond.fieldLink RX7 16 "TownClocks" "dials" "Ljava/util/ArrayList;", Cond.fieldLink RX7 193 "TownClocks$Explanations" "found" "I", Cond.constant RX7 60 (-1000000), Cond.fieldLink RX7 196 "TownClocks$Explanations" "pipe" "[I", Cond.fieldLink RX7 199 "TownClocks$Explanations" "leastLeak" "[I", Cond.methodLink RX7 62 yX7_within, Cond.static yX7_within, Cond.initialized RX7, Cond.code yX7_within cX7_within 3 (some .boolean), Cond.methodLink RX7 189 yX1_find, Cond.instanceMethod yX1_find, Cond.selects RX1 yX1_find yX1_find, Cond.initialized RX1, Cond.code yX1_find cX1_find 5 none, Cond.fieldLink RX1 21 "TownClocks$Explanations" "found" "I", Cond.constant RX1 35 (-1000000), Cond.fieldLink RX1 9 "TownClocks$Explanations" "pipe" "[I", Cond.fieldLink RX1 15 "TownClocks$Explanations" "leastLeak" "[I", Cond.methodLink RX1 25 yJx4a65c_size_8abf5, Cond.instanceMethod yJx4a65c_size_8abf5, Cond.selects RJx4a65c yJx4a65c_size_8abf5 yJx4a65c_size_8abf5]
def wsX7_explains_r2 : List Cond := [Cond.initialized RJx4a65c, Cond.code yJx4a65c_size_8abf5 cJx4a65c_size_8abf5 1 (some .int), Cond.fieldLink RJx4a65c 48 "java/util/ArrayList" "size" "I", Cond.methodLink RX1 31 yX1_leastLeakAt, Cond.static yX1_leastLeakAt, Cond.code yX1_leastLeakAt cX1_leastLeakAt 8 (some .int), Cond.classLink RX1 40 "TownClocks$Dial", Cond.fieldLink RX1 42 "TownClocks$Dial" "pipe" "LTownClocks$Pipe;", Cond.fieldLink RX1 51 "TownClocks$Dial" "need" "I", Cond.fieldLink RX1 58 "TownClocks$Dial" "marked" "Z", Cond.methodLink RX1 62 Lib.Math.max.name, Cond.static Lib.Math.max.name, Cond.initialized "java/lang/Math", Cond.code Lib.Math.max.name Lib.Math.max.code 2 (some .int), Cond.methodLink RX1 68 Lib.Math.min.name, Cond.static Lib.Math.min.name, Cond.code Lib.Math.min.name Lib.Math.min.code 2 (some .int), Cond.methodLink RX1 36 yJx4a65c_get_915e3, Cond.instanceMethod yJx4a65c_get_915e3, Cond.selects RJx4a65c yJx4a65c_get_915e3 yJx4a65c_get_915e3, Cond.code yJx4a65c_get_915e3 cJx4a65c_get_915e3 2 (some (.object "java/lang/Object")), Cond.methodLink RJx4a65c 118 yJ15_checkIndex_7cf53, Cond.static yJ15_checkIndex_7cf53, Cond.initialized RJ15]
def wsX7_explains_r3 : List Cond := [Cond.code yJ15_checkIndex_7cf53 cJ15_checkIndex_7cf53 2 (some .int), Cond.methodLink RJ15 105 yJ3_checkIndex_8e157, Cond.static yJ3_checkIndex_8e157, Cond.initialized RJ3, Cond.code yJ3_checkIndex_8e157 cJ3_checkIndex_8e157 3 (some .int), Cond.methodLink RJx4a65c 123 yJx4a65c_elementData_915e3, Cond.instanceMethod yJx4a65c_elementData_915e3, Cond.selects RJx4a65c yJx4a65c_elementData_915e3 yJx4a65c_elementData_915e3, Cond.code yJx4a65c_elementData_915e3 cJx4a65c_elementData_915e3 2 (some (.object "java/lang/Object")), Cond.fieldLink RJx4a65c 9 "java/util/ArrayList" "elementData" "[Ljava/lang/Object;", Cond.methodLink RX1 45 yX3_airBehindLeaks, Cond.instanceMethod yX3_airBehindLeaks, Cond.selects RX3 yX3_airBehindLeaks yX3_airBehindLeaks, Cond.initialized RX3, Cond.code yX3_airBehindLeaks cX3_airBehindLeaks 2 (some .int), Cond.fieldLink RX3 19 "TownClocks$Pipe" "lossInAll" "I", Cond.methodLink RX3 35 Lib.Math.max.name, Cond.methodLink RX1 54 yX3_isFedThrough, Cond.instanceMethod yX3_isFedThrough, Cond.selects RX3 yX3_isFedThrough yX3_isFedThrough, Cond.code yX3_isFedThrough cX3_isFedThrough 2 (some .boolean), Cond.fieldLink RX3 25 "TownClocks$Pipe" "wayBits" "I"]
def wsX7_explains : List Cond := .code yX7_explains cX7_explains 3 (some .int) :: ((wsX7_explains_r1 ++ (wsX7_explains_r2 ++ wsX7_explains_r3)) ++ wsX70 ++ wsX10 ++ wsJx4a65c0 ++ wsX00 ++ wsX30)
def wsX7_next_r1 : List Cond := [Cond.fieldLink RX7 29 "TownClocks" "explanations" "LTownClocks$Explanations;", Cond.fieldLink RX7 10 "TownClocks" "pipes" "Ljava/util/ArrayList;", Cond.fieldLink RX7 16 "TownClocks" "dials" "Ljava/util/ArrayList;", Cond.fieldLink RX7 193 "TownClocks$Explanations" "found" "I", Cond.constant RX7 60 (-1000000), Cond.classLink RX7 90 "TownClocks$Dial", Cond.fieldLink RX7 156 "TownClocks$Dial" "pipe" "LTownClocks$Pipe;", Cond.methodLink RX7 189 yX1_find, Cond.instanceMethod yX1_find, Cond.selects RX1 yX1_find yX1_find, Cond.initialized RX1, Cond.code yX1_find cX1_find 5 none, Cond.fieldLink RX1 21 "TownClocks$Explanations" "found" "I", Cond.constant RX1 35 (-1000000), Cond.fieldLink RX1 9 "TownClocks$Explanations" "pipe" "[I", Cond.fieldLink RX1 15 "TownClocks$Explanations" "leastLeak" "[I", Cond.methodLink RX1 25 yJx4a65c_size_8abf5, Cond.instanceMethod yJx4a65c_size_8abf5, Cond.selects RJx4a65c yJx4a65c_size_8abf5 yJx4a65c_size_8abf5, Cond.initialized RJx4a65c, Cond.code yJx4a65c_size_8abf5 cJx4a65c_size_8abf5 1 (some .int), Cond.fieldLink RJx4a65c 48 "java/util/ArrayList" "size" "I", Cond.methodLink RX1 31 yX1_leastLeakAt, Cond.static yX1_leastLeakAt]
def wsX7_next_r2 : List Cond := [Cond.code yX1_leastLeakAt cX1_leastLeakAt 8 (some .int), Cond.classLink RX1 40 "TownClocks$Dial", Cond.fieldLink RX1 42 "TownClocks$Dial" "pipe" "LTownClocks$Pipe;", Cond.fieldLink RX1 51 "TownClocks$Dial" "need" "I", Cond.fieldLink RX1 58 "TownClocks$Dial" "marked" "Z", Cond.methodLink RX1 62 Lib.Math.max.name, Cond.static Lib.Math.max.name, Cond.initialized "java/lang/Math", Cond.code Lib.Math.max.name Lib.Math.max.code 2 (some .int), Cond.methodLink RX1 68 Lib.Math.min.name, Cond.static Lib.Math.min.name, Cond.code Lib.Math.min.name Lib.Math.min.code 2 (some .int), Cond.methodLink RX1 36 yJx4a65c_get_915e3, Cond.instanceMethod yJx4a65c_get_915e3, Cond.selects RJx4a65c yJx4a65c_get_915e3 yJx4a65c_get_915e3, Cond.code yJx4a65c_get_915e3 cJx4a65c_get_915e3 2 (some (.object "java/lang/Object")), Cond.methodLink RJx4a65c 118 yJ15_checkIndex_7cf53, Cond.static yJ15_checkIndex_7cf53, Cond.initialized RJ15, Cond.code yJ15_checkIndex_7cf53 cJ15_checkIndex_7cf53 2 (some .int), Cond.methodLink RJ15 105 yJ3_checkIndex_8e157, Cond.static yJ3_checkIndex_8e157, Cond.initialized RJ3, Cond.code yJ3_checkIndex_8e157 cJ3_checkIndex_8e157 3 (some .int)]
def wsX7_next_r3 : List Cond := [Cond.methodLink RJx4a65c 123 yJx4a65c_elementData_915e3, Cond.instanceMethod yJx4a65c_elementData_915e3, Cond.selects RJx4a65c yJx4a65c_elementData_915e3 yJx4a65c_elementData_915e3, Cond.code yJx4a65c_elementData_915e3 cJx4a65c_elementData_915e3 2 (some (.object "java/lang/Object")), Cond.fieldLink RJx4a65c 9 "java/util/ArrayList" "elementData" "[Ljava/lang/Object;", Cond.methodLink RX1 45 yX3_airBehindLeaks, Cond.instanceMethod yX3_airBehindLeaks, Cond.selects RX3 yX3_airBehindLeaks yX3_airBehindLeaks, Cond.initialized RX3, Cond.code yX3_airBehindLeaks cX3_airBehindLeaks 2 (some .int), Cond.fieldLink RX3 19 "TownClocks$Pipe" "lossInAll" "I", Cond.methodLink RX3 35 Lib.Math.max.name, Cond.methodLink RX1 54 yX3_isFedThrough, Cond.instanceMethod yX3_isFedThrough, Cond.selects RX3 yX3_isFedThrough yX3_isFedThrough, Cond.code yX3_isFedThrough cX3_isFedThrough 2 (some .boolean), Cond.fieldLink RX3 25 "TownClocks$Pipe" "wayBits" "I", Cond.methodLink RX7 66 yJx4a65c_size_8abf5, Cond.methodLink RX7 103 yJx4a65c_get_915e3, Cond.methodLink RX7 202 yX1_unlikePairs, Cond.instanceMethod yX1_unlikePairs, Cond.selects RX1 yX1_unlikePairs yX1_unlikePairs, Cond.code yX1_unlikePairs cX1_unlikePairs 5 (some .int), Cond.fieldLink RX1 18 "TownClocks$Explanations" "likeAir" "[I"]
def wsX7_next_r4 : List Cond := [Cond.methodLink RX1 71 yJ7_fill_53178, Cond.static yJ7_fill_53178, Cond.initialized RJ7, Cond.code yJ7_fill_53178 cJ7_fill_53178 4 none]
def wsX7_next : List Cond := .code yX7_next cX7_next 5 (some .int) :: ((wsX7_next_r1 ++ (wsX7_next_r2 ++ (wsX7_next_r3 ++ wsX7_next_r4))) ++ wsX70 ++ wsX10 ++ wsX00 ++ wsJx4a65c0 ++ wsX30)
def wsX7_feed : List Cond := .code yX7_feed cX7_feed 4 (some .int) :: ([.constant RX7 61 (-1000001), .fieldLink RX7 36 "TownClocks" "tape" "LTownClocks$Tape;", .fieldLink RX7 206 "TownClocks$Tape" "length" "I", .constant RX7 70 (-1000003), .methodLink RX7 62 yX7_within, .static yX7_within, .initialized RX7, .code yX7_within cX7_within 3 (some .boolean), .methodLink RX7 209 yX5_append, .instanceMethod yX5_append, .selects RX5 yX5_append yX5_append, .initialized RX5, .code yX5_append cX5_append 5 none, .fieldLink RX5 15 "TownClocks$Tape" "length" "I", .fieldLink RX5 9 "TownClocks$Tape" "bytes" "[B"] ++ wsX70 ++ wsX50)
def wsX7_contracts_r1 : List Cond := [Cond.fieldLink RX7 45 "TownClocks" "reading" "LTownClocks$Reading;", Cond.fieldLink RX7 16 "TownClocks" "dials" "Ljava/util/ArrayList;", Cond.fieldLink RX7 36 "TownClocks" "tape" "LTownClocks$Tape;", Cond.fieldLink RX7 206 "TownClocks$Tape" "length" "I", Cond.constant RX7 217 (-1000100), Cond.fieldLink RX7 218 "TownClocks$Reading" "faultPlace" "I", Cond.fieldLink RX7 225 "TownClocks$Reading" "contractsTold" "I", Cond.methodLink RX7 66 yJx4a65c_size_8abf5, Cond.instanceMethod yJx4a65c_size_8abf5, Cond.selects RJx4a65c yJx4a65c_size_8abf5 yJx4a65c_size_8abf5, Cond.initialized RJx4a65c, Cond.code yJx4a65c_size_8abf5 cJx4a65c_size_8abf5 1 (some .int), Cond.fieldLink RJx4a65c 48 "java/util/ArrayList" "size" "I", Cond.methodLink RX7 213 yX4_readTape, Cond.instanceMethod yX4_readTape, Cond.selects RX4 yX4_readTape yX4_readTape, Cond.initialized RX4, Cond.code yX4_readTape cX4_readTape 2 (some .boolean), Cond.fieldLink RX4 9 "TownClocks$Reading" "waitingTerms" "[I", Cond.fieldLink RX4 31 "TownClocks$Reading" "contractsTold" "I", Cond.fieldLink RX4 21 "TownClocks$Reading" "tape" "LTownClocks$Tape;", Cond.fieldLink RX4 43 "TownClocks$Tape" "sort" "I", Cond.methodLink RX4 25 yJ7_fill_53178, Cond.static yJ7_fill_53178]
def wsX7_contracts_r2 : List Cond := [Cond.initialized RJ7, Cond.code yJ7_fill_53178 cJ7_fill_53178 4 none, Cond.methodLink RX4 35 yX5_rewind, Cond.instanceMethod yX5_rewind, Cond.selects RX5 yX5_rewind yX5_rewind, Cond.initialized RX5, Cond.code yX5_rewind cX5_rewind 1 none, Cond.fieldLink RX5 19 "TownClocks$Tape" "behind" "I", Cond.methodLink RX4 40 yX5_readToken, Cond.instanceMethod yX5_readToken, Cond.selects RX5 yX5_readToken yX5_readToken, Cond.code yX5_readToken cX5_readToken 1 none, Cond.fieldLink RX5 22 "TownClocks$Tape" "first" "I", Cond.fieldLink RX5 15 "TownClocks$Tape" "length" "I", Cond.fieldLink RX5 9 "TownClocks$Tape" "bytes" "[B", Cond.fieldLink RX5 29 "TownClocks$Tape" "sort" "I", Cond.methodLink RX5 25 yX5_isBlank, Cond.static yX5_isBlank, Cond.code yX5_isBlank cX5_isBlank 1 (some .boolean), Cond.methodLink RX5 32 yX5_isLetter, Cond.static yX5_isLetter, Cond.code yX5_isLetter cX5_isLetter 1 (some .boolean), Cond.methodLink RX5 35 yX5_endOfLetters, Cond.instanceMethod yX5_endOfLetters]
def wsX7_contracts_r3 : List Cond := [Cond.selects RX5 yX5_endOfLetters yX5_endOfLetters, Cond.code yX5_endOfLetters cX5_endOfLetters 2 (some .int), Cond.methodLink RX5 39 yX5_isFigure, Cond.static yX5_isFigure, Cond.code yX5_isFigure cX5_isFigure 1 (some .boolean), Cond.methodLink RX5 42 yX5_endOfFigures, Cond.instanceMethod yX5_endOfFigures, Cond.selects RX5 yX5_endOfFigures yX5_endOfFigures, Cond.code yX5_endOfFigures cX5_endOfFigures 2 (some .int), Cond.methodLink RX4 46 yX4_readContract, Cond.instanceMethod yX4_readContract, Cond.selects RX4 yX4_readContract yX4_readContract, Cond.code yX4_readContract cX4_readContract 6 (some .boolean), Cond.fieldLink RX4 15 "TownClocks$Reading" "waitingBelow" "[I", Cond.fieldLink RX4 18 "TownClocks$Reading" "waitingPays" "[I", Cond.methodLink RX4 52 yX5_isName, Cond.instanceMethod yX5_isName, Cond.selects RX5 yX5_isName yX5_isName, Cond.code yX5_isName cX5_isName 3 (some .boolean), Cond.methodLink RX5 45 yJ0_length_8abf5, Cond.instanceMethod yJ0_length_8abf5, Cond.selects RJ0 yJ0_length_8abf5 yJ0_length_8abf5, Cond.initialized RJ0, Cond.code yJ0_length_8abf5 cJ0_length_8abf5 1 (some .int)]
def wsX7_contracts_r4 : List Cond := [Cond.fieldLink RJ0 9 "java/lang/String" "value" "[B", Cond.methodLink RJ0 335 yJ0_coder_7d493, Cond.instanceMethod yJ0_coder_7d493, Cond.selects RJ0 yJ0_coder_7d493 yJ0_coder_7d493, Cond.code yJ0_coder_7d493 cJ0_coder_7d493 1 (some .byte), Cond.fieldLink RJ0 38 "java/lang/String" "COMPACT_STRINGS" "Z", Cond.fieldLink RJ0 15 "java/lang/String" "coder" "B", Cond.methodLink RX5 49 yJ0_charAt_5068e, Cond.instanceMethod yJ0_charAt_5068e, Cond.selects RJ0 yJ0_charAt_5068e yJ0_charAt_5068e, Cond.code yJ0_charAt_5068e cJ0_charAt_5068e 2 (some .char), Cond.methodLink RJ0 492 yJ0_isLatin1_aae02, Cond.instanceMethod yJ0_isLatin1_aae02, Cond.selects RJ0 yJ0_isLatin1_aae02 yJ0_isLatin1_aae02, Cond.code yJ0_isLatin1_aae02 cJ0_isLatin1_aae02 1 (some .boolean), Cond.methodLink RJ0 495 yJ1_charAt_3b067, Cond.static yJ1_charAt_3b067, Cond.initialized RJ1, Cond.code yJ1_charAt_3b067 cJ1_charAt_3b067 2 (some .char), Cond.methodLink RJ1 9 yJ0_checkIndex_df160, Cond.static yJ0_checkIndex_df160, Cond.code yJ0_checkIndex_df160 cJ0_checkIndex_df160 2 none, Cond.fieldLink RJ0 1053 "jdk/internal/util/Preconditions" "SIOOBE_FORMATTER" "Ljava/util/function/BiFunction;", Cond.methodLink RJ0 1059 yJ3_checkIndex_8e157]
def wsX7_contracts_r5 : List Cond := [Cond.static yJ3_checkIndex_8e157, Cond.initialized RJ3, Cond.code yJ3_checkIndex_8e157 cJ3_checkIndex_8e157 3 (some .int), Cond.methodLink RJ0 498 yJ2_charAt_3b067, Cond.static yJ2_charAt_3b067, Cond.initialized RJ2, Cond.code yJ2_charAt_3b067 cJ2_charAt_3b067 2 (some .char), Cond.methodLink RJ2 67 yJ2_checkIndex_2214a, Cond.static yJ2_checkIndex_2214a, Cond.code yJ2_checkIndex_2214a cJ2_checkIndex_2214a 2 none, Cond.methodLink RJ2 48 yJ2_length_9d52b, Cond.static yJ2_length_9d52b, Cond.code yJ2_length_9d52b cJ2_length_9d52b 1 (some .int), Cond.methodLink RJ2 414 yJ0_checkIndex_df160, Cond.methodLink RJ2 71 yJ2_getChar_3b067, Cond.static yJ2_getChar_3b067, Cond.code yJ2_getChar_3b067 cJ2_getChar_3b067 2 (some .char), Cond.fieldLink RJ2 44 "java/lang/StringUTF16" "$assertionsDisabled" "Z", Cond.fieldLink RJ2 59 "java/lang/StringUTF16" "HI_BYTE_SHIFT" "I", Cond.fieldLink RJ2 63 "java/lang/StringUTF16" "LO_BYTE_SHIFT" "I", Cond.methodLink RX4 56 yX4_refuse, Cond.instanceMethod yX4_refuse, Cond.selects RX4 yX4_refuse yX4_refuse, Cond.code yX4_refuse cX4_refuse 2 (some .boolean)]
def wsX7_contracts_r6 : List Cond := [Cond.fieldLink RX4 83 "TownClocks$Reading" "latestFault" "I", Cond.fieldLink RX4 86 "TownClocks$Tape" "first" "I", Cond.fieldLink RX4 89 "TownClocks$Reading" "faultPlace" "I", Cond.methodLink RX4 59 yX4_readNumber, Cond.instanceMethod yX4_readNumber, Cond.selects RX4 yX4_readNumber yX4_readNumber, Cond.code yX4_readNumber cX4_readNumber 1 (some .boolean), Cond.methodLink RX4 63 yX5_numberValue, Cond.instanceMethod yX5_numberValue, Cond.selects RX5 yX5_numberValue yX5_numberValue, Cond.code yX5_numberValue cX5_numberValue 3 (some .int), Cond.methodLink RX4 67 yX4_namedTerms, Cond.instanceMethod yX4_namedTerms, Cond.selects RX4 yX4_namedTerms yX4_namedTerms, Cond.code yX4_namedTerms cX4_namedTerms 1 (some .int), Cond.methodLink RX4 70 yX4_readSign, Cond.instanceMethod yX4_readSign, Cond.selects RX4 yX4_readSign yX4_readSign, Cond.code yX4_readSign cX4_readSign 2 (some .boolean), Cond.methodLink RX4 80 yX5_isSign, Cond.instanceMethod yX5_isSign, Cond.selects RX5 yX5_isSign yX5_isSign, Cond.code yX5_isSign cX5_isSign 2 (some .boolean), Cond.methodLink RX7 221 yX4_putInForce]
def wsX7_contracts_r7 : List Cond := [Cond.instanceMethod yX4_putInForce, Cond.selects RX4 yX4_putInForce yX4_putInForce, Cond.code yX4_putInForce cX4_putInForce 3 none, Cond.classLink RX4 101 "TownClocks$Dial", Cond.methodLink RX4 92 yJx4a65c_size_8abf5, Cond.methodLink RX4 97 yJx4a65c_get_915e3, Cond.instanceMethod yJx4a65c_get_915e3, Cond.selects RJx4a65c yJx4a65c_get_915e3 yJx4a65c_get_915e3, Cond.code yJx4a65c_get_915e3 cJx4a65c_get_915e3 2 (some (.object "java/lang/Object")), Cond.methodLink RJx4a65c 118 yJ15_checkIndex_7cf53, Cond.static yJ15_checkIndex_7cf53, Cond.initialized RJ15, Cond.code yJ15_checkIndex_7cf53 cJ15_checkIndex_7cf53 2 (some .int), Cond.methodLink RJ15 105 yJ3_checkIndex_8e157, Cond.methodLink RJx4a65c 123 yJx4a65c_elementData_915e3, Cond.instanceMethod yJx4a65c_elementData_915e3, Cond.selects RJx4a65c yJx4a65c_elementData_915e3 yJx4a65c_elementData_915e3, Cond.code yJx4a65c_elementData_915e3 cJx4a65c_elementData_915e3 2 (some (.object "java/lang/Object")), Cond.fieldLink RJx4a65c 9 "java/util/ArrayList" "elementData" "[Ljava/lang/Object;", Cond.methodLink RX4 103 yX0_begin, Cond.instanceMethod yX0_begin, Cond.selects RX0 yX0_begin yX0_begin, Cond.initialized RX0, Cond.code yX0_begin cX0_begin 4 none]
def wsX7_contracts_r8 : List Cond := [Cond.fieldLink RX0 47 "TownClocks$Dial" "terms" "I", Cond.fieldLink RX0 50 "TownClocks$Dial" "below" "I", Cond.fieldLink RX0 44 "TownClocks$Dial" "pays" "I", Cond.fieldLink RX0 41 "TownClocks$Dial" "owed" "I"]
def wsX7_contracts : List Cond := .code yX7_contracts cX7_contracts 2 (some .int) :: ((wsX7_contracts_r1 ++ (wsX7_contracts_r2 ++ (wsX7_contracts_r3 ++ (wsX7_contracts_r4 ++ (wsX7_contracts_r5 ++ (wsX7_contracts_r6 ++ (wsX7_contracts_r7 ++ wsX7_contracts_r8))))))) ++ wsX70 ++ wsX50 ++ wsX40 ++ wsJx4a65c0 ++ wsX00)
def wsX7_fault : List Cond := .code yX7_fault cX7_fault 1 (some .int) :: ([.fieldLink RX7 45 "TownClocks" "reading" "LTownClocks$Reading;", .fieldLink RX7 228 "TownClocks$Reading" "latestFault" "I"] ++ wsX70 ++ wsX40)
def wsX7_owes_r1 : List Cond := [Cond.constant RX7 61 (-1000001), Cond.fieldLink RX7 231 "TownClocks$Dial" "owed" "I", Cond.methodLink RX7 137 yX7_dialAt, Cond.instanceMethod yX7_dialAt, Cond.selects RX7 yX7_dialAt yX7_dialAt, Cond.initialized RX7, Cond.code yX7_dialAt cX7_dialAt 2 (some (.object "TownClocks$Dial")), Cond.fieldLink RX7 16 "TownClocks" "dials" "Ljava/util/ArrayList;", Cond.classLink RX7 90 "TownClocks$Dial", Cond.methodLink RX7 66 yJx4a65c_size_8abf5, Cond.instanceMethod yJx4a65c_size_8abf5, Cond.selects RJx4a65c yJx4a65c_size_8abf5 yJx4a65c_size_8abf5, Cond.initialized RJx4a65c, Cond.code yJx4a65c_size_8abf5 cJx4a65c_size_8abf5 1 (some .int), Cond.fieldLink RJx4a65c 48 "java/util/ArrayList" "size" "I", Cond.methodLink RX7 62 yX7_within, Cond.static yX7_within, Cond.code yX7_within cX7_within 3 (some .boolean), Cond.methodLink RX7 103 yJx4a65c_get_915e3, Cond.instanceMethod yJx4a65c_get_915e3, Cond.selects RJx4a65c yJx4a65c_get_915e3 yJx4a65c_get_915e3, Cond.code yJx4a65c_get_915e3 cJx4a65c_get_915e3 2 (some (.object "java/lang/Object")), Cond.methodLink RJx4a65c 118 yJ15_checkIndex_7cf53, Cond.static yJ15_checkIndex_7cf53]
def wsX7_owes_r2 : List Cond := [Cond.initialized RJ15, Cond.code yJ15_checkIndex_7cf53 cJ15_checkIndex_7cf53 2 (some .int), Cond.methodLink RJ15 105 yJ3_checkIndex_8e157, Cond.static yJ3_checkIndex_8e157, Cond.initialized RJ3, Cond.code yJ3_checkIndex_8e157 cJ3_checkIndex_8e157 3 (some .int), Cond.methodLink RJx4a65c 123 yJx4a65c_elementData_915e3, Cond.instanceMethod yJx4a65c_elementData_915e3, Cond.selects RJx4a65c yJx4a65c_elementData_915e3 yJx4a65c_elementData_915e3, Cond.code yJx4a65c_elementData_915e3 cJx4a65c_elementData_915e3 2 (some (.object "java/lang/Object")), Cond.fieldLink RJx4a65c 9 "java/util/ArrayList" "elementData" "[Ljava/lang/Object;"]
def wsX7_owes : List Cond := .code yX7_owes cX7_owes 3 (some .int) :: ((wsX7_owes_r1 ++ wsX7_owes_r2) ++ wsX00 ++ wsX70 ++ wsJx4a65c0)
def wsX7_kind_r1 : List Cond := [Cond.constant RX7 61 (-1000001), Cond.methodLink RX7 137 yX7_dialAt, Cond.instanceMethod yX7_dialAt, Cond.selects RX7 yX7_dialAt yX7_dialAt, Cond.initialized RX7, Cond.code yX7_dialAt cX7_dialAt 2 (some (.object "TownClocks$Dial")), Cond.fieldLink RX7 16 "TownClocks" "dials" "Ljava/util/ArrayList;", Cond.classLink RX7 90 "TownClocks$Dial", Cond.methodLink RX7 66 yJx4a65c_size_8abf5, Cond.instanceMethod yJx4a65c_size_8abf5, Cond.selects RJx4a65c yJx4a65c_size_8abf5 yJx4a65c_size_8abf5, Cond.initialized RJx4a65c, Cond.code yJx4a65c_size_8abf5 cJx4a65c_size_8abf5 1 (some .int), Cond.fieldLink RJx4a65c 48 "java/util/ArrayList" "size" "I", Cond.methodLink RX7 62 yX7_within, Cond.static yX7_within, Cond.code yX7_within cX7_within 3 (some .boolean), Cond.methodLink RX7 103 yJx4a65c_get_915e3, Cond.instanceMethod yJx4a65c_get_915e3, Cond.selects RJx4a65c yJx4a65c_get_915e3 yJx4a65c_get_915e3, Cond.code yJx4a65c_get_915e3 cJx4a65c_get_915e3 2 (some (.object "java/lang/Object")), Cond.methodLink RJx4a65c 118 yJ15_checkIndex_7cf53, Cond.static yJ15_checkIndex_7cf53, Cond.initialized RJ15]
def wsX7_kind_r2 : List Cond := [Cond.code yJ15_checkIndex_7cf53 cJ15_checkIndex_7cf53 2 (some .int), Cond.methodLink RJ15 105 yJ3_checkIndex_8e157, Cond.static yJ3_checkIndex_8e157, Cond.initialized RJ3, Cond.code yJ3_checkIndex_8e157 cJ3_checkIndex_8e157 3 (some .int), Cond.methodLink RJx4a65c 123 yJx4a65c_elementData_915e3, Cond.instanceMethod yJx4a65c_elementData_915e3, Cond.selects RJx4a65c yJx4a65c_elementData_915e3 yJx4a65c_elementData_915e3, Cond.code yJx4a65c_elementData_915e3 cJx4a65c_elementData_915e3 2 (some (.object "java/lang/Object")), Cond.fieldLink RJx4a65c 9 "java/util/ArrayList" "elementData" "[Ljava/lang/Object;", Cond.methodLink RX7 177 yX0_toldKind, Cond.instanceMethod yX0_toldKind, Cond.selects RX0 yX0_toldKind yX0_toldKind, Cond.initialized RX0, Cond.code yX0_toldKind cX0_toldKind 1 (some .int), Cond.fieldLink RX0 31 "TownClocks$Dial" "missedRunning" "I", Cond.fieldLink RX0 19 "TownClocks$Dial" "sort" "I"]
def wsX7_kind : List Cond := .code yX7_kind cX7_kind 3 (some .int) :: ((wsX7_kind_r1 ++ wsX7_kind_r2) ++ wsX70 ++ wsJx4a65c0 ++ wsX00)
def wsX7_as_r1 : List Cond := [Cond.constant RX7 61 (-1000001), Cond.fieldLink RX7 144 "TownClocks$Dial" "late" "I", Cond.constant RX7 184 (-1000004), Cond.methodLink RX7 137 yX7_dialAt, Cond.instanceMethod yX7_dialAt, Cond.selects RX7 yX7_dialAt yX7_dialAt, Cond.initialized RX7, Cond.code yX7_dialAt cX7_dialAt 2 (some (.object "TownClocks$Dial")), Cond.fieldLink RX7 16 "TownClocks" "dials" "Ljava/util/ArrayList;", Cond.classLink RX7 90 "TownClocks$Dial", Cond.methodLink RX7 66 yJx4a65c_size_8abf5, Cond.instanceMethod yJx4a65c_size_8abf5, Cond.selects RJx4a65c yJx4a65c_size_8abf5 yJx4a65c_size_8abf5, Cond.initialized RJx4a65c, Cond.code yJx4a65c_size_8abf5 cJx4a65c_size_8abf5 1 (some .int), Cond.fieldLink RJx4a65c 48 "java/util/ArrayList" "size" "I", Cond.methodLink RX7 62 yX7_within, Cond.static yX7_within, Cond.code yX7_within cX7_within 3 (some .boolean), Cond.methodLink RX7 103 yJx4a65c_get_915e3, Cond.instanceMethod yJx4a65c_get_915e3, Cond.selects RJx4a65c yJx4a65c_get_915e3 yJx4a65c_get_915e3, Cond.code yJx4a65c_get_915e3 cJx4a65c_get_915e3 2 (some (.object "java/lang/Object")), Cond.methodLink RJx4a65c 118 yJ15_checkIndex_7cf53]
def wsX7_as_r2 : List Cond := [Cond.static yJ15_checkIndex_7cf53, Cond.initialized RJ15, Cond.code yJ15_checkIndex_7cf53 cJ15_checkIndex_7cf53 2 (some .int), Cond.methodLink RJ15 105 yJ3_checkIndex_8e157, Cond.static yJ3_checkIndex_8e157, Cond.initialized RJ3, Cond.code yJ3_checkIndex_8e157 cJ3_checkIndex_8e157 3 (some .int), Cond.methodLink RJx4a65c 123 yJx4a65c_elementData_915e3, Cond.instanceMethod yJx4a65c_elementData_915e3, Cond.selects RJx4a65c yJx4a65c_elementData_915e3 yJx4a65c_elementData_915e3, Cond.code yJx4a65c_elementData_915e3 cJx4a65c_elementData_915e3 2 (some (.object "java/lang/Object")), Cond.fieldLink RJx4a65c 9 "java/util/ArrayList" "elementData" "[Ljava/lang/Object;", Cond.methodLink RX7 177 yX0_toldKind, Cond.instanceMethod yX0_toldKind, Cond.selects RX0 yX0_toldKind yX0_toldKind, Cond.initialized RX0, Cond.code yX0_toldKind cX0_toldKind 1 (some .int), Cond.fieldLink RX0 31 "TownClocks$Dial" "missedRunning" "I", Cond.fieldLink RX0 19 "TownClocks$Dial" "sort" "I", Cond.methodLink RX7 180 yX7_isOfKind, Cond.static yX7_isOfKind, Cond.code yX7_isOfKind cX7_isOfKind 2 (some .boolean)]
def wsX7_as : List Cond := .code yX7_as cX7_as 4 (some .int) :: ((wsX7_as_r1 ++ wsX7_as_r2) ++ wsX00 ++ wsX70 ++ wsJx4a65c0)
def wsX7_body10 : List Cond := .code yX7_body10 cX7_body10 2 (some .int) :: ([.fieldLink RX7 52 "TownClocks" "bodies" "LTownClocks$Trace;", .fieldLink RX7 144 "TownClocks$Dial" "late" "I", .methodLink RX7 275 yX6_begin, .instanceMethod yX6_begin, .selects RX6 yX6_begin yX6_begin, .initialized RX6, .code yX6_begin cX6_begin 2 none, .fieldLink RX6 13 "TownClocks$Trace" "length" "I", .fieldLink RX6 9 "TownClocks$Trace" "numbers" "[I"] ++ wsX70 ++ wsX00 ++ wsX60)
def wsX7_body11 : List Cond := .code yX7_body11 cX7_body11 2 (some .int) :: ([.fieldLink RX7 52 "TownClocks" "bodies" "LTownClocks$Trace;", .methodLink RX7 275 yX6_begin, .instanceMethod yX6_begin, .selects RX6 yX6_begin yX6_begin, .initialized RX6, .code yX6_begin cX6_begin 2 none, .fieldLink RX6 13 "TownClocks$Trace" "length" "I", .fieldLink RX6 9 "TownClocks$Trace" "numbers" "[I", .methodLink RX7 272 yX7_body10, .instanceMethod yX7_body10, .selects RX7 yX7_body10 yX7_body10, .initialized RX7, .code yX7_body10 cX7_body10 2 (some .int), .fieldLink RX7 144 "TownClocks$Dial" "late" "I"] ++ wsX70 ++ wsX60 ++ wsX00)
def wsX7_body12 : List Cond := .code yX7_body12 cX7_body12 2 (some .int) :: ([.fieldLink RX7 52 "TownClocks" "bodies" "LTownClocks$Trace;", .methodLink RX7 275 yX6_begin, .instanceMethod yX6_begin, .selects RX6 yX6_begin yX6_begin, .initialized RX6, .code yX6_begin cX6_begin 2 none, .fieldLink RX6 13 "TownClocks$Trace" "length" "I", .fieldLink RX6 9 "TownClocks$Trace" "numbers" "[I", .methodLink RX7 263 yX7_body11, .instanceMethod yX7_body11, .selects RX7 yX7_body11 yX7_body11, .initialized RX7, .code yX7_body11 cX7_body11 2 (some .int), .methodLink RX7 272 yX7_body10, .instanceMethod yX7_body10, .selects RX7 yX7_body10 yX7_body10, .code yX7_body10 cX7_body10 2 (some .int), .fieldLink RX7 144 "TownClocks$Dial" "late" "I"] ++ wsX70 ++ wsX60 ++ wsX00)
def wsX7_body13 : List Cond := .code yX7_body13 cX7_body13 2 (some .int) :: ([.fieldLink RX7 52 "TownClocks" "bodies" "LTownClocks$Trace;", .methodLink RX7 275 yX6_begin, .instanceMethod yX6_begin, .selects RX6 yX6_begin yX6_begin, .initialized RX6, .code yX6_begin cX6_begin 2 none, .fieldLink RX6 13 "TownClocks$Trace" "length" "I", .fieldLink RX6 9 "TownClocks$Trace" "numbers" "[I", .methodLink RX7 272 yX7_body10, .instanceMethod yX7_body10, .selects RX7 yX7_body10 yX7_body10, .initialized RX7, .code yX7_body10 cX7_body10 2 (some .int), .fieldLink RX7 144 "TownClocks$Dial" "late" "I"] ++ wsX70 ++ wsX60 ++ wsX00)
def wsX7_weightOf_r1 : List Cond := [Cond.methodLink RX7 177 yX0_toldKind, Cond.instanceMethod yX0_toldKind, Cond.selects RX0 yX0_toldKind yX0_toldKind, Cond.initialized RX0, Cond.code yX0_toldKind cX0_toldKind 1 (some .int), Cond.fieldLink RX0 31 "TownClocks$Dial" "missedRunning" "I", Cond.fieldLink RX0 19 "TownClocks$Dial" "sort" "I", Cond.methodLink RX7 263 yX7_body11, Cond.instanceMethod yX7_body11, Cond.selects RX7 yX7_body11 yX7_body11, Cond.initialized RX7, Cond.code yX7_body11 cX7_body11 2 (some .int), Cond.fieldLink RX7 52 "TownClocks" "bodies" "LTownClocks$Trace;", Cond.methodLink RX7 275 yX6_begin, Cond.instanceMethod yX6_begin, Cond.selects RX6 yX6_begin yX6_begin, Cond.initialized RX6, Cond.code yX6_begin cX6_begin 2 none, Cond.fieldLink RX6 13 "TownClocks$Trace" "length" "I", Cond.fieldLink RX6 9 "TownClocks$Trace" "numbers" "[I", Cond.methodLink RX7 272 yX7_body10, Cond.instanceMethod yX7_body10, Cond.selects RX7 yX7_body10 yX7_body10, Cond.code yX7_body10 cX7_body10 2 (some .int)]
def wsX7_weightOf_r2 : List Cond := [Cond.fieldLink RX7 144 "TownClocks$Dial" "late" "I", Cond.methodLink RX7 266 yX7_body12, Cond.instanceMethod yX7_body12, Cond.selects RX7 yX7_body12 yX7_body12, Cond.code yX7_body12 cX7_body12 2 (some .int), Cond.methodLink RX7 269 yX7_body13, Cond.instanceMethod yX7_body13, Cond.selects RX7 yX7_body13 yX7_body13, Cond.code yX7_body13 cX7_body13 2 (some .int)]
def wsX7_weightOf : List Cond := .code yX7_weightOf cX7_weightOf 2 (some .int) :: ((wsX7_weightOf_r1 ++ wsX7_weightOf_r2) ++ wsX00 ++ wsX70 ++ wsX60)
def wsX7_body20 : List Cond := .code yX7_body20 cX7_body20 2 (some .int) :: ([.fieldLink RX7 52 "TownClocks" "bodies" "LTownClocks$Trace;", .fieldLink RX7 163 "TownClocks$Dial" "need" "I", .methodLink RX7 275 yX6_begin, .instanceMethod yX6_begin, .selects RX6 yX6_begin yX6_begin, .initialized RX6, .code yX6_begin cX6_begin 2 none, .fieldLink RX6 13 "TownClocks$Trace" "length" "I", .fieldLink RX6 9 "TownClocks$Trace" "numbers" "[I"] ++ wsX70 ++ wsX00 ++ wsX60)
def wsX7_body21_r1 : List Cond := [Cond.fieldLink RX7 52 "TownClocks" "bodies" "LTownClocks$Trace;", Cond.methodLink RX7 275 yX6_begin, Cond.instanceMethod yX6_begin, Cond.selects RX6 yX6_begin yX6_begin, Cond.initialized RX6, Cond.code yX6_begin cX6_begin 2 none, Cond.fieldLink RX6 13 "TownClocks$Trace" "length" "I", Cond.fieldLink RX6 9 "TownClocks$Trace" "numbers" "[I", Cond.methodLink RX7 284 yX7_body20, Cond.instanceMethod yX7_body20, Cond.selects RX7 yX7_body20 yX7_body20, Cond.initialized RX7, Cond.code yX7_body20 cX7_body20 2 (some .int), Cond.fieldLink RX7 163 "TownClocks$Dial" "need" "I", Cond.methodLink RX7 235 yX7_weightOf, Cond.instanceMethod yX7_weightOf, Cond.selects RX7 yX7_weightOf yX7_weightOf, Cond.code yX7_weightOf cX7_weightOf 2 (some .int), Cond.methodLink RX7 177 yX0_toldKind, Cond.instanceMethod yX0_toldKind, Cond.selects RX0 yX0_toldKind yX0_toldKind, Cond.initialized RX0, Cond.code yX0_toldKind cX0_toldKind 1 (some .int), Cond.fieldLink RX0 31 "TownClocks$Dial" "missedRunning" "I"]
def wsX7_body21_r2 : List Cond := [Cond.fieldLink RX0 19 "TownClocks$Dial" "sort" "I", Cond.methodLink RX7 263 yX7_body11, Cond.instanceMethod yX7_body11, Cond.selects RX7 yX7_body11 yX7_body11, Cond.code yX7_body11 cX7_body11 2 (some .int), Cond.methodLink RX7 272 yX7_body10, Cond.instanceMethod yX7_body10, Cond.selects RX7 yX7_body10 yX7_body10, Cond.code yX7_body10 cX7_body10 2 (some .int), Cond.fieldLink RX7 144 "TownClocks$Dial" "late" "I", Cond.methodLink RX7 266 yX7_body12, Cond.instanceMethod yX7_body12, Cond.selects RX7 yX7_body12 yX7_body12, Cond.code yX7_body12 cX7_body12 2 (some .int), Cond.methodLink RX7 269 yX7_body13, Cond.instanceMethod yX7_body13, Cond.selects RX7 yX7_body13 yX7_body13, Cond.code yX7_body13 cX7_body13 2 (some .int)]
def wsX7_body21 : List Cond := .code yX7_body21 cX7_body21 2 (some .int) :: ((wsX7_body21_r1 ++ wsX7_body21_r2) ++ wsX70 ++ wsX60 ++ wsX00)
def wsX7_body22 : List Cond := .code yX7_body22 cX7_body22 2 (some .int) :: ([.fieldLink RX7 52 "TownClocks" "bodies" "LTownClocks$Trace;", .methodLink RX7 275 yX6_begin, .instanceMethod yX6_begin, .selects RX6 yX6_begin yX6_begin, .initialized RX6, .code yX6_begin cX6_begin 2 none, .fieldLink RX6 13 "TownClocks$Trace" "length" "I", .fieldLink RX6 9 "TownClocks$Trace" "numbers" "[I", .methodLink RX7 284 yX7_body20, .instanceMethod yX7_body20, .selects RX7 yX7_body20 yX7_body20, .initialized RX7, .code yX7_body20 cX7_body20 2 (some .int), .fieldLink RX7 163 "TownClocks$Dial" "need" "I"] ++ wsX70 ++ wsX60 ++ wsX00)
def wsX7_markOf_r1 : List Cond := [Cond.methodLink RX7 177 yX0_toldKind, Cond.instanceMethod yX0_toldKind, Cond.selects RX0 yX0_toldKind yX0_toldKind, Cond.initialized RX0, Cond.code yX0_toldKind cX0_toldKind 1 (some .int), Cond.fieldLink RX0 31 "TownClocks$Dial" "missedRunning" "I", Cond.fieldLink RX0 19 "TownClocks$Dial" "sort" "I", Cond.methodLink RX7 278 yX7_body21, Cond.instanceMethod yX7_body21, Cond.selects RX7 yX7_body21 yX7_body21, Cond.initialized RX7, Cond.code yX7_body21 cX7_body21 2 (some .int), Cond.fieldLink RX7 52 "TownClocks" "bodies" "LTownClocks$Trace;", Cond.methodLink RX7 275 yX6_begin, Cond.instanceMethod yX6_begin, Cond.selects RX6 yX6_begin yX6_begin, Cond.initialized RX6, Cond.code yX6_begin cX6_begin 2 none, Cond.fieldLink RX6 13 "TownClocks$Trace" "length" "I", Cond.fieldLink RX6 9 "TownClocks$Trace" "numbers" "[I", Cond.methodLink RX7 284 yX7_body20, Cond.instanceMethod yX7_body20, Cond.selects RX7 yX7_body20 yX7_body20, Cond.code yX7_body20 cX7_body20 2 (some .int)]
def wsX7_markOf_r2 : List Cond := [Cond.fieldLink RX7 163 "TownClocks$Dial" "need" "I", Cond.methodLink RX7 235 yX7_weightOf, Cond.instanceMethod yX7_weightOf, Cond.selects RX7 yX7_weightOf yX7_weightOf, Cond.code yX7_weightOf cX7_weightOf 2 (some .int), Cond.methodLink RX7 263 yX7_body11, Cond.instanceMethod yX7_body11, Cond.selects RX7 yX7_body11 yX7_body11, Cond.code yX7_body11 cX7_body11 2 (some .int), Cond.methodLink RX7 272 yX7_body10, Cond.instanceMethod yX7_body10, Cond.selects RX7 yX7_body10 yX7_body10, Cond.code yX7_body10 cX7_body10 2 (some .int), Cond.fieldLink RX7 144 "TownClocks$Dial" "late" "I", Cond.methodLink RX7 266 yX7_body12, Cond.instanceMethod yX7_body12, Cond.selects RX7 yX7_body12 yX7_body12, Cond.code yX7_body12 cX7_body12 2 (some .int), Cond.methodLink RX7 269 yX7_body13, Cond.instanceMethod yX7_body13, Cond.selects RX7 yX7_body13 yX7_body13, Cond.code yX7_body13 cX7_body13 2 (some .int), Cond.methodLink RX7 281 yX7_body22, Cond.instanceMethod yX7_body22]
def wsX7_markOf_r3 : List Cond := [Cond.selects RX7 yX7_body22 yX7_body22, Cond.code yX7_body22 cX7_body22 2 (some .int)]
def wsX7_markOf : List Cond := .code yX7_markOf cX7_markOf 2 (some .int) :: ((wsX7_markOf_r1 ++ (wsX7_markOf_r2 ++ wsX7_markOf_r3)) ++ wsX00 ++ wsX70 ++ wsX60)
def wsX7_ask_r1 : List Cond := [Cond.constant RX7 61 (-1000001), Cond.fieldLink RX7 52 "TownClocks" "bodies" "LTownClocks$Trace;", Cond.fieldLink RX7 234 "TownClocks$Trace" "length" "I", Cond.methodLink RX7 137 yX7_dialAt, Cond.instanceMethod yX7_dialAt, Cond.selects RX7 yX7_dialAt yX7_dialAt, Cond.initialized RX7, Cond.code yX7_dialAt cX7_dialAt 2 (some (.object "TownClocks$Dial")), Cond.fieldLink RX7 16 "TownClocks" "dials" "Ljava/util/ArrayList;", Cond.classLink RX7 90 "TownClocks$Dial", Cond.methodLink RX7 66 yJx4a65c_size_8abf5, Cond.instanceMethod yJx4a65c_size_8abf5, Cond.selects RJx4a65c yJx4a65c_size_8abf5 yJx4a65c_size_8abf5, Cond.initialized RJx4a65c, Cond.code yJx4a65c_size_8abf5 cJx4a65c_size_8abf5 1 (some .int), Cond.fieldLink RJx4a65c 48 "java/util/ArrayList" "size" "I", Cond.methodLink RX7 62 yX7_within, Cond.static yX7_within, Cond.code yX7_within cX7_within 3 (some .boolean), Cond.methodLink RX7 103 yJx4a65c_get_915e3, Cond.instanceMethod yJx4a65c_get_915e3, Cond.selects RJx4a65c yJx4a65c_get_915e3 yJx4a65c_get_915e3, Cond.code yJx4a65c_get_915e3 cJx4a65c_get_915e3 2 (some (.object "java/lang/Object")), Cond.methodLink RJx4a65c 118 yJ15_checkIndex_7cf53]
def wsX7_ask_r2 : List Cond := [Cond.static yJ15_checkIndex_7cf53, Cond.initialized RJ15, Cond.code yJ15_checkIndex_7cf53 cJ15_checkIndex_7cf53 2 (some .int), Cond.methodLink RJ15 105 yJ3_checkIndex_8e157, Cond.static yJ3_checkIndex_8e157, Cond.initialized RJ3, Cond.code yJ3_checkIndex_8e157 cJ3_checkIndex_8e157 3 (some .int), Cond.methodLink RJx4a65c 123 yJx4a65c_elementData_915e3, Cond.instanceMethod yJx4a65c_elementData_915e3, Cond.selects RJx4a65c yJx4a65c_elementData_915e3 yJx4a65c_elementData_915e3, Cond.code yJx4a65c_elementData_915e3 cJx4a65c_elementData_915e3 2 (some (.object "java/lang/Object")), Cond.fieldLink RJx4a65c 9 "java/util/ArrayList" "elementData" "[Ljava/lang/Object;", Cond.methodLink RX7 235 yX7_weightOf, Cond.instanceMethod yX7_weightOf, Cond.selects RX7 yX7_weightOf yX7_weightOf, Cond.code yX7_weightOf cX7_weightOf 2 (some .int), Cond.methodLink RX7 177 yX0_toldKind, Cond.instanceMethod yX0_toldKind, Cond.selects RX0 yX0_toldKind yX0_toldKind, Cond.initialized RX0, Cond.code yX0_toldKind cX0_toldKind 1 (some .int), Cond.fieldLink RX0 31 "TownClocks$Dial" "missedRunning" "I", Cond.fieldLink RX0 19 "TownClocks$Dial" "sort" "I", Cond.methodLink RX7 263 yX7_body11]
def wsX7_ask_r3 : List Cond := [Cond.instanceMethod yX7_body11, Cond.selects RX7 yX7_body11 yX7_body11, Cond.code yX7_body11 cX7_body11 2 (some .int), Cond.methodLink RX7 275 yX6_begin, Cond.instanceMethod yX6_begin, Cond.selects RX6 yX6_begin yX6_begin, Cond.initialized RX6, Cond.code yX6_begin cX6_begin 2 none, Cond.fieldLink RX6 13 "TownClocks$Trace" "length" "I", Cond.fieldLink RX6 9 "TownClocks$Trace" "numbers" "[I", Cond.methodLink RX7 272 yX7_body10, Cond.instanceMethod yX7_body10, Cond.selects RX7 yX7_body10 yX7_body10, Cond.code yX7_body10 cX7_body10 2 (some .int), Cond.fieldLink RX7 144 "TownClocks$Dial" "late" "I", Cond.methodLink RX7 266 yX7_body12, Cond.instanceMethod yX7_body12, Cond.selects RX7 yX7_body12 yX7_body12, Cond.code yX7_body12 cX7_body12 2 (some .int), Cond.methodLink RX7 269 yX7_body13, Cond.instanceMethod yX7_body13, Cond.selects RX7 yX7_body13 yX7_body13, Cond.code yX7_body13 cX7_body13 2 (some .int), Cond.methodLink RX7 239 yX7_markOf]
def wsX7_ask_r4 : List Cond := [Cond.instanceMethod yX7_markOf, Cond.selects RX7 yX7_markOf yX7_markOf, Cond.code yX7_markOf cX7_markOf 2 (some .int), Cond.methodLink RX7 278 yX7_body21, Cond.instanceMethod yX7_body21, Cond.selects RX7 yX7_body21 yX7_body21, Cond.code yX7_body21 cX7_body21 2 (some .int), Cond.methodLink RX7 284 yX7_body20, Cond.instanceMethod yX7_body20, Cond.selects RX7 yX7_body20 yX7_body20, Cond.code yX7_body20 cX7_body20 2 (some .int), Cond.fieldLink RX7 163 "TownClocks$Dial" "need" "I", Cond.methodLink RX7 281 yX7_body22, Cond.instanceMethod yX7_body22, Cond.selects RX7 yX7_body22 yX7_body22, Cond.code yX7_body22 cX7_body22 2 (some .int)]
def wsX7_ask : List Cond := .code yX7_ask cX7_ask 4 (some .int) :: ((wsX7_ask_r1 ++ (wsX7_ask_r2 ++ (wsX7_ask_r3 ++ wsX7_ask_r4))) ++ wsX70 ++ wsX60 ++ wsJx4a65c0 ++ wsX00)
def wsX7_trace : List Cond := .code yX7_trace cX7_trace 2 (some .int) :: ([.fieldLink RX7 52 "TownClocks" "bodies" "LTownClocks$Trace;", .fieldLink RX7 234 "TownClocks$Trace" "length" "I", .fieldLink RX7 242 "TownClocks$Trace" "numbers" "[I", .constant RX7 60 (-1000000), .methodLink RX7 62 yX7_within, .static yX7_within, .initialized RX7, .code yX7_within cX7_within 3 (some .boolean)] ++ wsX70 ++ wsX60)
def wsX7_countOfKind_r1 : List Cond := [Cond.fieldLink RX7 16 "TownClocks" "dials" "Ljava/util/ArrayList;", Cond.classLink RX7 90 "TownClocks$Dial", Cond.methodLink RX7 66 yJx4a65c_size_8abf5, Cond.instanceMethod yJx4a65c_size_8abf5, Cond.selects RJx4a65c yJx4a65c_size_8abf5 yJx4a65c_size_8abf5, Cond.initialized RJx4a65c, Cond.code yJx4a65c_size_8abf5 cJx4a65c_size_8abf5 1 (some .int), Cond.fieldLink RJx4a65c 48 "java/util/ArrayList" "size" "I", Cond.methodLink RX7 103 yJx4a65c_get_915e3, Cond.instanceMethod yJx4a65c_get_915e3, Cond.selects RJx4a65c yJx4a65c_get_915e3 yJx4a65c_get_915e3, Cond.code yJx4a65c_get_915e3 cJx4a65c_get_915e3 2 (some (.object "java/lang/Object")), Cond.methodLink RJx4a65c 118 yJ15_checkIndex_7cf53, Cond.static yJ15_checkIndex_7cf53, Cond.initialized RJ15, Cond.code yJ15_checkIndex_7cf53 cJ15_checkIndex_7cf53 2 (some .int), Cond.methodLink RJ15 105 yJ3_checkIndex_8e157, Cond.static yJ3_checkIndex_8e157, Cond.initialized RJ3, Cond.code yJ3_checkIndex_8e157 cJ3_checkIndex_8e157 3 (some .int), Cond.methodLink RJx4a65c 123 yJx4a65c_elementData_915e3, Cond.instanceMethod yJx4a65c_elementData_915e3, Cond.selects RJx4a65c yJx4a65c_elementData_915e3 yJx4a65c_elementData_915e3, Cond.code yJx4a65c_elementData_915e3 cJx4a65c_elementData_915e3 2 (some (.object "java/lang/Object"))]
def wsX7_countOfKind_r2 : List Cond := [Cond.fieldLink RJx4a65c 9 "java/util/ArrayList" "elementData" "[Ljava/lang/Object;", Cond.methodLink RX7 177 yX0_toldKind, Cond.instanceMethod yX0_toldKind, Cond.selects RX0 yX0_toldKind yX0_toldKind, Cond.initialized RX0, Cond.code yX0_toldKind cX0_toldKind 1 (some .int), Cond.fieldLink RX0 31 "TownClocks$Dial" "missedRunning" "I", Cond.fieldLink RX0 19 "TownClocks$Dial" "sort" "I", Cond.methodLink RX7 180 yX7_isOfKind, Cond.static yX7_isOfKind, Cond.initialized RX7, Cond.code yX7_isOfKind cX7_isOfKind 2 (some .boolean)]
def wsX7_countOfKind : List Cond := .code yX7_countOfKind cX7_countOfKind 4 (some .int) :: ((wsX7_countOfKind_r1 ++ wsX7_countOfKind_r2) ++ wsX70 ++ wsJx4a65c0 ++ wsX00)
def wsX7_countContracts_r1 : List Cond := [Cond.fieldLink RX7 16 "TownClocks" "dials" "Ljava/util/ArrayList;", Cond.classLink RX7 90 "TownClocks$Dial", Cond.fieldLink RX7 260 "TownClocks$Dial" "terms" "I", Cond.methodLink RX7 66 yJx4a65c_size_8abf5, Cond.instanceMethod yJx4a65c_size_8abf5, Cond.selects RJx4a65c yJx4a65c_size_8abf5 yJx4a65c_size_8abf5, Cond.initialized RJx4a65c, Cond.code yJx4a65c_size_8abf5 cJx4a65c_size_8abf5 1 (some .int), Cond.fieldLink RJx4a65c 48 "java/util/ArrayList" "size" "I", Cond.methodLink RX7 103 yJx4a65c_get_915e3, Cond.instanceMethod yJx4a65c_get_915e3, Cond.selects RJx4a65c yJx4a65c_get_915e3 yJx4a65c_get_915e3, Cond.code yJx4a65c_get_915e3 cJx4a65c_get_915e3 2 (some (.object "java/lang/Object")), Cond.methodLink RJx4a65c 118 yJ15_checkIndex_7cf53, Cond.static yJ15_checkIndex_7cf53, Cond.initialized RJ15, Cond.code yJ15_checkIndex_7cf53 cJ15_checkIndex_7cf53 2 (some .int), Cond.methodLink RJ15 105 yJ3_checkIndex_8e157, Cond.static yJ3_checkIndex_8e157, Cond.initialized RJ3, Cond.code yJ3_checkIndex_8e157 cJ3_checkIndex_8e157 3 (some .int), Cond.methodLink RJx4a65c 123 yJx4a65c_elementData_915e3, Cond.instanceMethod yJx4a65c_elementData_915e3, Cond.selects RJx4a65c yJx4a65c_elementData_915e3 yJx4a65c_elementData_915e3]
def wsX7_countContracts_r2 : List Cond := [Cond.code yJx4a65c_elementData_915e3 cJx4a65c_elementData_915e3 2 (some (.object "java/lang/Object")), Cond.fieldLink RJx4a65c 9 "java/util/ArrayList" "elementData" "[Ljava/lang/Object;"]
def wsX7_countContracts : List Cond := .code yX7_countContracts cX7_countContracts 3 (some .int) :: ((wsX7_countContracts_r1 ++ wsX7_countContracts_r2) ++ wsX70 ++ wsX00 ++ wsJx4a65c0)
def wsX7_allLates_r1 : List Cond := [Cond.fieldLink RX7 16 "TownClocks" "dials" "Ljava/util/ArrayList;", Cond.classLink RX7 90 "TownClocks$Dial", Cond.fieldLink RX7 144 "TownClocks$Dial" "late" "I", Cond.methodLink RX7 255 Lib.Math.abs.name, Cond.static Lib.Math.abs.name, Cond.initialized "java/lang/Math", Cond.code Lib.Math.abs.name Lib.Math.abs.code 1 (some .int), Cond.methodLink RX7 66 yJx4a65c_size_8abf5, Cond.instanceMethod yJx4a65c_size_8abf5, Cond.selects RJx4a65c yJx4a65c_size_8abf5 yJx4a65c_size_8abf5, Cond.initialized RJx4a65c, Cond.code yJx4a65c_size_8abf5 cJx4a65c_size_8abf5 1 (some .int), Cond.fieldLink RJx4a65c 48 "java/util/ArrayList" "size" "I", Cond.methodLink RX7 103 yJx4a65c_get_915e3, Cond.instanceMethod yJx4a65c_get_915e3, Cond.selects RJx4a65c yJx4a65c_get_915e3 yJx4a65c_get_915e3, Cond.code yJx4a65c_get_915e3 cJx4a65c_get_915e3 2 (some (.object "java/lang/Object")), Cond.methodLink RJx4a65c 118 yJ15_checkIndex_7cf53, Cond.static yJ15_checkIndex_7cf53, Cond.initialized RJ15, Cond.code yJ15_checkIndex_7cf53 cJ15_checkIndex_7cf53 2 (some .int), Cond.methodLink RJ15 105 yJ3_checkIndex_8e157, Cond.static yJ3_checkIndex_8e157, Cond.initialized RJ3]
def wsX7_allLates_r2 : List Cond := [Cond.code yJ3_checkIndex_8e157 cJ3_checkIndex_8e157 3 (some .int), Cond.methodLink RJx4a65c 123 yJx4a65c_elementData_915e3, Cond.instanceMethod yJx4a65c_elementData_915e3, Cond.selects RJx4a65c yJx4a65c_elementData_915e3 yJx4a65c_elementData_915e3, Cond.code yJx4a65c_elementData_915e3 cJx4a65c_elementData_915e3 2 (some (.object "java/lang/Object")), Cond.fieldLink RJx4a65c 9 "java/util/ArrayList" "elementData" "[Ljava/lang/Object;"]
def wsX7_allLates : List Cond := .code yX7_allLates cX7_allLates 3 (some .int) :: ((wsX7_allLates_r1 ++ wsX7_allLates_r2) ++ wsX70 ++ wsX00 ++ wsJx4a65c0)
def wsX7_count_r1 : List Cond := [Cond.fieldLink RX7 10 "TownClocks" "pipes" "Ljava/util/ArrayList;", Cond.fieldLink RX7 16 "TownClocks" "dials" "Ljava/util/ArrayList;", Cond.fieldLink RX7 111 "TownClocks" "missedLatest" "I", Cond.fieldLink RX7 36 "TownClocks" "tape" "LTownClocks$Tape;", Cond.fieldLink RX7 206 "TownClocks$Tape" "length" "I", Cond.constant RX7 61 (-1000001), Cond.methodLink RX7 66 yJx4a65c_size_8abf5, Cond.instanceMethod yJx4a65c_size_8abf5, Cond.selects RJx4a65c yJx4a65c_size_8abf5 yJx4a65c_size_8abf5, Cond.initialized RJx4a65c, Cond.code yJx4a65c_size_8abf5 cJx4a65c_size_8abf5 1 (some .int), Cond.fieldLink RJx4a65c 48 "java/util/ArrayList" "size" "I", Cond.methodLink RX7 245 yX7_countOfKind, Cond.instanceMethod yX7_countOfKind, Cond.selects RX7 yX7_countOfKind yX7_countOfKind, Cond.initialized RX7, Cond.code yX7_countOfKind cX7_countOfKind 4 (some .int), Cond.classLink RX7 90 "TownClocks$Dial", Cond.methodLink RX7 103 yJx4a65c_get_915e3, Cond.instanceMethod yJx4a65c_get_915e3, Cond.selects RJx4a65c yJx4a65c_get_915e3 yJx4a65c_get_915e3, Cond.code yJx4a65c_get_915e3 cJx4a65c_get_915e3 2 (some (.object "java/lang/Object")), Cond.methodLink RJx4a65c 118 yJ15_checkIndex_7cf53, Cond.static yJ15_checkIndex_7cf53]
def wsX7_count_r2 : List Cond := [Cond.initialized RJ15, Cond.code yJ15_checkIndex_7cf53 cJ15_checkIndex_7cf53 2 (some .int), Cond.methodLink RJ15 105 yJ3_checkIndex_8e157, Cond.static yJ3_checkIndex_8e157, Cond.initialized RJ3, Cond.code yJ3_checkIndex_8e157 cJ3_checkIndex_8e157 3 (some .int), Cond.methodLink RJx4a65c 123 yJx4a65c_elementData_915e3, Cond.instanceMethod yJx4a65c_elementData_915e3, Cond.selects RJx4a65c yJx4a65c_elementData_915e3 yJx4a65c_elementData_915e3, Cond.code yJx4a65c_elementData_915e3 cJx4a65c_elementData_915e3 2 (some (.object "java/lang/Object")), Cond.fieldLink RJx4a65c 9 "java/util/ArrayList" "elementData" "[Ljava/lang/Object;", Cond.methodLink RX7 177 yX0_toldKind, Cond.instanceMethod yX0_toldKind, Cond.selects RX0 yX0_toldKind yX0_toldKind, Cond.initialized RX0, Cond.code yX0_toldKind cX0_toldKind 1 (some .int), Cond.fieldLink RX0 31 "TownClocks$Dial" "missedRunning" "I", Cond.fieldLink RX0 19 "TownClocks$Dial" "sort" "I", Cond.methodLink RX7 180 yX7_isOfKind, Cond.static yX7_isOfKind, Cond.code yX7_isOfKind cX7_isOfKind 2 (some .boolean), Cond.methodLink RX7 249 yX7_countContracts, Cond.instanceMethod yX7_countContracts, Cond.selects RX7 yX7_countContracts yX7_countContracts]
def wsX7_count_r3 : List Cond := [Cond.code yX7_countContracts cX7_countContracts 3 (some .int), Cond.fieldLink RX7 260 "TownClocks$Dial" "terms" "I", Cond.methodLink RX7 252 yX7_allLates, Cond.instanceMethod yX7_allLates, Cond.selects RX7 yX7_allLates yX7_allLates, Cond.code yX7_allLates cX7_allLates 3 (some .int), Cond.fieldLink RX7 144 "TownClocks$Dial" "late" "I", Cond.methodLink RX7 255 Lib.Math.abs.name, Cond.static Lib.Math.abs.name, Cond.initialized "java/lang/Math", Cond.code Lib.Math.abs.name Lib.Math.abs.code 1 (some .int)]
def wsX7_count : List Cond := .code yX7_count cX7_count 2 (some .int) :: ((wsX7_count_r1 ++ (wsX7_count_r2 ++ wsX7_count_r3)) ++ wsX70 ++ wsX50 ++ wsJx4a65c0 ++ wsX00)
def wsX8_init_r1 : List Cond := [Cond.methodLink RX8 1 objectInit, Cond.instanceMethod objectInit, Cond.code objectInit ⟨#[0xb1]⟩ 1 none, Cond.arrayClass .int, Cond.fieldLink RX8 7 "TownClocksModel" "parent" "[I", Cond.fieldLink RX8 13 "TownClocksModel" "loss" "[I", Cond.fieldLink RX8 16 "TownClocksModel" "lag" "[I", Cond.fieldLink RX8 19 "TownClocksModel" "leak" "[I", Cond.fieldLink RX8 22 "TownClocksModel" "air" "[I", Cond.fieldLink RX8 25 "TownClocksModel" "on" "[I", Cond.fieldLink RX8 28 "TownClocksModel" "need" "[I", Cond.fieldLink RX8 31 "TownClocksModel" "sortOf" "[I", Cond.fieldLink RX8 34 "TownClocksModel" "late" "[I", Cond.fieldLink RX8 37 "TownClocksModel" "running" "[I", Cond.fieldLink RX8 40 "TownClocksModel" "known" "[I", Cond.fieldLink RX8 43 "TownClocksModel" "since" "[I", Cond.arrayClass .boolean, Cond.fieldLink RX8 46 "TownClocksModel" "hasMissed" "[Z", Cond.fieldLink RX8 50 "TownClocksModel" "isMarked" "[Z", Cond.fieldLink RX8 53 "TownClocksModel" "contract" "[I", Cond.fieldLink RX8 56 "TownClocksModel" "first" "[I", Cond.fieldLink RX8 59 "TownClocksModel" "second" "[I", Cond.fieldLink RX8 62 "TownClocksModel" "owed" "[I", Cond.fieldLink RX8 65 "TownClocksModel" "foundPipe" "[I"]
def wsX8_init_r2 : List Cond := [Cond.fieldLink RX8 68 "TownClocksModel" "foundLeak" "[I", Cond.fieldLink RX8 71 "TownClocksModel" "isLooked" "[Z", Cond.fieldLink RX8 74 "TownClocksModel" "airBy" "[I", Cond.fieldLink RX8 77 "TownClocksModel" "tape" "[I", Cond.fieldLink RX8 80 "TownClocksModel" "toldDial" "[I", Cond.fieldLink RX8 83 "TownClocksModel" "toldSort" "[I", Cond.fieldLink RX8 86 "TownClocksModel" "toldFirst" "[I", Cond.fieldLink RX8 89 "TownClocksModel" "toldSecond" "[I", Cond.fieldLink RX8 92 "TownClocksModel" "trace" "[I"]
def wsX8_init : List Cond := .code yX8_init cX8_init 1 none :: ((wsX8_init_r1 ++ wsX8_init_r2) ++ wsX80)
def wsX8_in : List Cond := .code yX8_in cX8_in 6 (some .boolean) :: ([])
def wsX8_isPipe : List Cond := .code yX8_isPipe cX8_isPipe 2 (some .boolean) :: ([.fieldLink RX8 99 "TownClocksModel" "pipes" "I", .methodLink RX8 102 yX8_in, .static yX8_in, .initialized RX8, .code yX8_in cX8_in 6 (some .boolean)] ++ wsX80)
def wsX8_pipe : List Cond := .code yX8_pipe cX8_pipe 4 (some .int) :: ([.fieldLink RX8 95 "TownClocksModel" "thrown" "I", .constant RX8 106 (-1000000), .constantLong RX8 111 (50), .constantLong RX8 113 (20), .constant RX8 115 (-1000001), .fieldLink RX8 99 "TownClocksModel" "pipes" "I", .constant RX8 116 (-1000003), .fieldLink RX8 7 "TownClocksModel" "parent" "[I", .fieldLink RX8 13 "TownClocksModel" "loss" "[I", .fieldLink RX8 16 "TownClocksModel" "lag" "[I", .fieldLink RX8 19 "TownClocksModel" "leak" "[I", .methodLink RX8 107 yX8_isPipe, .instanceMethod yX8_isPipe, .selects RX8 yX8_isPipe yX8_isPipe, .initialized RX8, .code yX8_isPipe cX8_isPipe 2 (some .boolean), .methodLink RX8 102 yX8_in, .static yX8_in, .code yX8_in cX8_in 6 (some .boolean)] ++ wsX80)
def wsX8_leak : List Cond := .code yX8_leak cX8_leak 4 (some .int) :: ([.fieldLink RX8 95 "TownClocksModel" "thrown" "I", .constantLong RX8 117 (60), .constant RX8 115 (-1000001), .fieldLink RX8 19 "TownClocksModel" "leak" "[I", .methodLink RX8 107 yX8_isPipe, .instanceMethod yX8_isPipe, .selects RX8 yX8_isPipe yX8_isPipe, .initialized RX8, .code yX8_isPipe cX8_isPipe 2 (some .boolean), .fieldLink RX8 99 "TownClocksModel" "pipes" "I", .methodLink RX8 102 yX8_in, .static yX8_in, .code yX8_in cX8_in 6 (some .boolean)] ++ wsX80)
def wsX8_findAir : List Cond := .code yX8_findAir cX8_findAir 3 none :: ([.fieldLink RX8 99 "TownClocksModel" "pipes" "I", .fieldLink RX8 7 "TownClocksModel" "parent" "[I", .constant RX8 106 (-1000000), .fieldLink RX8 22 "TownClocksModel" "air" "[I", .fieldLink RX8 13 "TownClocksModel" "loss" "[I", .fieldLink RX8 19 "TownClocksModel" "leak" "[I"] ++ wsX80)
def wsX8_findAirBy : List Cond := .code yX8_findAirBy cX8_findAirBy 5 none :: ([.fieldLink RX8 99 "TownClocksModel" "pipes" "I", .fieldLink RX8 7 "TownClocksModel" "parent" "[I", .constant RX8 106 (-1000000), .fieldLink RX8 22 "TownClocksModel" "air" "[I", .fieldLink RX8 13 "TownClocksModel" "loss" "[I"] ++ wsX80)
def wsX8_lagOf : List Cond := .code yX8_lagOf cX8_lagOf 4 (some .int) :: ([.constant RX8 106 (-1000000), .fieldLink RX8 16 "TownClocksModel" "lag" "[I", .fieldLink RX8 7 "TownClocksModel" "parent" "[I"] ++ wsX80)
def wsX8_told_r1 : List Cond := [Cond.fieldLink RX8 95 "TownClocksModel" "thrown" "I", Cond.constantLong RX8 119 (2), Cond.constant RX8 115 (-1000001), Cond.fieldLink RX8 22 "TownClocksModel" "air" "[I", Cond.fieldLink RX8 19 "TownClocksModel" "leak" "[I", Cond.methodLink RX8 107 yX8_isPipe, Cond.instanceMethod yX8_isPipe, Cond.selects RX8 yX8_isPipe yX8_isPipe, Cond.initialized RX8, Cond.code yX8_isPipe cX8_isPipe 2 (some .boolean), Cond.fieldLink RX8 99 "TownClocksModel" "pipes" "I", Cond.methodLink RX8 102 yX8_in, Cond.static yX8_in, Cond.code yX8_in cX8_in 6 (some .boolean), Cond.methodLink RX8 121 yX8_findAir, Cond.instanceMethod yX8_findAir, Cond.selects RX8 yX8_findAir yX8_findAir, Cond.code yX8_findAir cX8_findAir 3 none, Cond.fieldLink RX8 7 "TownClocksModel" "parent" "[I", Cond.constant RX8 106 (-1000000), Cond.fieldLink RX8 13 "TownClocksModel" "loss" "[I", Cond.methodLink RX8 124 yX8_lagOf, Cond.instanceMethod yX8_lagOf, Cond.selects RX8 yX8_lagOf yX8_lagOf]
def wsX8_told_r2 : List Cond := [Cond.code yX8_lagOf cX8_lagOf 4 (some .int), Cond.fieldLink RX8 16 "TownClocksModel" "lag" "[I"]
def wsX8_told : List Cond := .code yX8_told cX8_told 3 (some .int) :: ((wsX8_told_r1 ++ wsX8_told_r2) ++ wsX80)
def wsX8_isDial : List Cond := .code yX8_isDial cX8_isDial 2 (some .boolean) :: ([.fieldLink RX8 128 "TownClocksModel" "dials" "I", .methodLink RX8 102 yX8_in, .static yX8_in, .initialized RX8, .code yX8_in cX8_in 6 (some .boolean)] ++ wsX80)
def wsX8_dial : List Cond := .code yX8_dial cX8_dial 4 (some .int) :: ([.fieldLink RX8 95 "TownClocksModel" "thrown" "I", .constantLong RX8 131 (100), .constantLong RX8 119 (2), .constant RX8 115 (-1000001), .fieldLink RX8 128 "TownClocksModel" "dials" "I", .constant RX8 116 (-1000003), .fieldLink RX8 25 "TownClocksModel" "on" "[I", .fieldLink RX8 28 "TownClocksModel" "need" "[I", .fieldLink RX8 31 "TownClocksModel" "sortOf" "[I", .methodLink RX8 107 yX8_isPipe, .instanceMethod yX8_isPipe, .selects RX8 yX8_isPipe yX8_isPipe, .initialized RX8, .code yX8_isPipe cX8_isPipe 2 (some .boolean), .fieldLink RX8 99 "TownClocksModel" "pipes" "I", .methodLink RX8 102 yX8_in, .static yX8_in, .code yX8_in cX8_in 6 (some .boolean)] ++ wsX80)
def wsX8_puff_r1 : List Cond := [Cond.fieldLink RX8 95 "TownClocksModel" "thrown" "I", Cond.fieldLink RX8 133 "TownClocksModel" "minute" "I", Cond.constant RX8 136 (100000), Cond.constant RX8 137 (-1000002), Cond.fieldLink RX8 138 "TownClocksModel" "off" "J", Cond.fieldLink RX8 142 "TownClocksModel" "drift" "I", Cond.fieldLink RX8 128 "TownClocksModel" "dials" "I", Cond.fieldLink RX8 46 "TownClocksModel" "hasMissed" "[Z", Cond.fieldLink RX8 22 "TownClocksModel" "air" "[I", Cond.fieldLink RX8 25 "TownClocksModel" "on" "[I", Cond.fieldLink RX8 28 "TownClocksModel" "need" "[I", Cond.fieldLink RX8 34 "TownClocksModel" "late" "[I", Cond.fieldLink RX8 37 "TownClocksModel" "running" "[I", Cond.fieldLink RX8 43 "TownClocksModel" "since" "[I", Cond.fieldLink RX8 53 "TownClocksModel" "contract" "[I", Cond.fieldLink RX8 62 "TownClocksModel" "owed" "[I", Cond.fieldLink RX8 56 "TownClocksModel" "first" "[I", Cond.fieldLink RX8 59 "TownClocksModel" "second" "[I", Cond.methodLink RX8 121 yX8_findAir, Cond.instanceMethod yX8_findAir, Cond.selects RX8 yX8_findAir yX8_findAir, Cond.initialized RX8, Cond.code yX8_findAir cX8_findAir 3 none, Cond.fieldLink RX8 99 "TownClocksModel" "pipes" "I"]
def wsX8_puff_r2 : List Cond := [Cond.fieldLink RX8 7 "TownClocksModel" "parent" "[I", Cond.constant RX8 106 (-1000000), Cond.fieldLink RX8 13 "TownClocksModel" "loss" "[I", Cond.fieldLink RX8 19 "TownClocksModel" "leak" "[I"]
def wsX8_puff : List Cond := .code yX8_puff cX8_puff 3 (some .int) :: ((wsX8_puff_r1 ++ wsX8_puff_r2) ++ wsX80)
def wsX8_drift : List Cond := .code yX8_drift cX8_drift 3 (some .int) :: ([.fieldLink RX8 95 "TownClocksModel" "thrown" "I", .constantLong RX8 145 (-5), .constantLong RX8 147 (5), .constant RX8 115 (-1000001), .fieldLink RX8 142 "TownClocksModel" "drift" "I", .methodLink RX8 102 yX8_in, .static yX8_in, .initialized RX8, .code yX8_in cX8_in 6 (some .boolean)] ++ wsX80)
def wsX8_sight : List Cond := .code yX8_sight cX8_sight 3 (some .long) :: ([.fieldLink RX8 95 "TownClocksModel" "thrown" "I", .fieldLink RX8 138 "TownClocksModel" "off" "J", .fieldLink RX8 133 "TownClocksModel" "minute" "I", .fieldLink RX8 149 "TownClocksModel" "sightedAt" "I", .fieldLink RX8 152 "TownClocksModel" "sightings" "I"] ++ wsX80)
def wsX8_now : List Cond := .code yX8_now cX8_now 4 (some .long) :: ([.fieldLink RX8 95 "TownClocksModel" "thrown" "I", .fieldLink RX8 133 "TownClocksModel" "minute" "I", .fieldLink RX8 149 "TownClocksModel" "sightedAt" "I", .fieldLink RX8 138 "TownClocksModel" "off" "J", .constantLong RX8 145 (-5), .constantLong RX8 147 (5), .fieldLink RX8 152 "TownClocksModel" "sightings" "I", .constantLong RX8 155 (-1000001)] ++ wsX80)
def wsX8_look : List Cond := .code yX8_look cX8_look 2 (some .int) :: ([.fieldLink RX8 95 "TownClocksModel" "thrown" "I", .constant RX8 115 (-1000001), .fieldLink RX8 40 "TownClocksModel" "known" "[I", .fieldLink RX8 34 "TownClocksModel" "late" "[I", .fieldLink RX8 43 "TownClocksModel" "since" "[I", .methodLink RX8 157 yX8_isDial, .instanceMethod yX8_isDial, .selects RX8 yX8_isDial yX8_isDial, .initialized RX8, .code yX8_isDial cX8_isDial 2 (some .boolean), .fieldLink RX8 128 "TownClocksModel" "dials" "I", .methodLink RX8 102 yX8_in, .static yX8_in, .code yX8_in cX8_in 6 (some .boolean)] ++ wsX80)
def wsX8_state : List Cond := .code yX8_state cX8_state 3 (some .int) :: ([.fieldLink RX8 95 "TownClocksModel" "thrown" "I", .constantLong RX8 147 (5), .constant RX8 115 (-1000001), .fieldLink RX8 34 "TownClocksModel" "late" "[I", .fieldLink RX8 40 "TownClocksModel" "known" "[I", .fieldLink RX8 43 "TownClocksModel" "since" "[I", .fieldLink RX8 37 "TownClocksModel" "running" "[I", .fieldLink RX8 25 "TownClocksModel" "on" "[I", .fieldLink RX8 28 "TownClocksModel" "need" "[I", .methodLink RX8 157 yX8_isDial, .instanceMethod yX8_isDial, .selects RX8 yX8_isDial yX8_isDial, .initialized RX8, .code yX8_isDial cX8_isDial 2 (some .boolean), .fieldLink RX8 128 "TownClocksModel" "dials" "I", .methodLink RX8 102 yX8_in, .static yX8_in, .code yX8_in cX8_in 6 (some .boolean)] ++ wsX80)
def wsX8_put : List Cond := .code yX8_put cX8_put 3 (some .int) :: ([.fieldLink RX8 95 "TownClocksModel" "thrown" "I", .constantLong RX8 160 (-60), .constantLong RX8 117 (60), .constant RX8 115 (-1000001), .fieldLink RX8 34 "TownClocksModel" "late" "[I", .fieldLink RX8 40 "TownClocksModel" "known" "[I", .methodLink RX8 157 yX8_isDial, .instanceMethod yX8_isDial, .selects RX8 yX8_isDial yX8_isDial, .initialized RX8, .code yX8_isDial cX8_isDial 2 (some .boolean), .fieldLink RX8 128 "TownClocksModel" "dials" "I", .methodLink RX8 102 yX8_in, .static yX8_in, .code yX8_in cX8_in 6 (some .boolean)] ++ wsX80)
def wsX8_makeRight : List Cond := .code yX8_makeRight cX8_makeRight 2 none :: ([.fieldLink RX8 34 "TownClocksModel" "late" "[I", .fieldLink RX8 40 "TownClocksModel" "known" "[I", .fieldLink RX8 43 "TownClocksModel" "since" "[I", .fieldLink RX8 37 "TownClocksModel" "running" "[I"] ++ wsX80)
def wsX8_right : List Cond := .code yX8_right cX8_right 3 (some .int) :: ([.fieldLink RX8 95 "TownClocksModel" "thrown" "I", .constant RX8 115 (-1000001), .fieldLink RX8 34 "TownClocksModel" "late" "[I", .methodLink RX8 157 yX8_isDial, .instanceMethod yX8_isDial, .selects RX8 yX8_isDial yX8_isDial, .initialized RX8, .code yX8_isDial cX8_isDial 2 (some .boolean), .fieldLink RX8 128 "TownClocksModel" "dials" "I", .methodLink RX8 102 yX8_in, .static yX8_in, .code yX8_in cX8_in 6 (some .boolean), .methodLink RX8 162 yX8_makeRight, .instanceMethod yX8_makeRight, .selects RX8 yX8_makeRight yX8_makeRight, .code yX8_makeRight cX8_makeRight 2 none, .fieldLink RX8 40 "TownClocksModel" "known" "[I", .fieldLink RX8 43 "TownClocksModel" "since" "[I", .fieldLink RX8 37 "TownClocksModel" "running" "[I"] ++ wsX80)
def wsX8_size : List Cond := .code yX8_size cX8_size 1 (some .int) :: ([])
def wsX8_round : List Cond := .code yX8_round cX8_round 6 (some .int) :: ([.fieldLink RX8 95 "TownClocksModel" "thrown" "I", .constantLong RX8 166 (10), .constant RX8 115 (-1000001), .constant RX8 106 (-1000000), .fieldLink RX8 128 "TownClocksModel" "dials" "I", .fieldLink RX8 34 "TownClocksModel" "late" "[I", .methodLink RX8 102 yX8_in, .static yX8_in, .initialized RX8, .code yX8_in cX8_in 6 (some .boolean), .methodLink RX8 168 yX8_size, .static yX8_size, .code yX8_size cX8_size 1 (some .int), .methodLink RX8 162 yX8_makeRight, .instanceMethod yX8_makeRight, .selects RX8 yX8_makeRight yX8_makeRight, .code yX8_makeRight cX8_makeRight 2 none, .fieldLink RX8 40 "TownClocksModel" "known" "[I", .fieldLink RX8 43 "TownClocksModel" "since" "[I", .fieldLink RX8 37 "TownClocksModel" "running" "[I"] ++ wsX80)
def wsX8_kindOf : List Cond := .code yX8_kindOf cX8_kindOf 2 (some .int) :: ([.fieldLink RX8 37 "TownClocksModel" "running" "[I", .fieldLink RX8 31 "TownClocksModel" "sortOf" "[I"] ++ wsX80)
def wsX8_ahead_r1 : List Cond := [Cond.fieldLink RX8 95 "TownClocksModel" "thrown" "I", Cond.constant RX8 115 (-1000001), Cond.constant RX8 174 (-1000004), Cond.fieldLink RX8 25 "TownClocksModel" "on" "[I", Cond.methodLink RX8 157 yX8_isDial, Cond.instanceMethod yX8_isDial, Cond.selects RX8 yX8_isDial yX8_isDial, Cond.initialized RX8, Cond.code yX8_isDial cX8_isDial 2 (some .boolean), Cond.fieldLink RX8 128 "TownClocksModel" "dials" "I", Cond.methodLink RX8 102 yX8_in, Cond.static yX8_in, Cond.code yX8_in cX8_in 6 (some .boolean), Cond.methodLink RX8 171 yX8_kindOf, Cond.instanceMethod yX8_kindOf, Cond.selects RX8 yX8_kindOf yX8_kindOf, Cond.code yX8_kindOf cX8_kindOf 2 (some .int), Cond.fieldLink RX8 37 "TownClocksModel" "running" "[I", Cond.fieldLink RX8 31 "TownClocksModel" "sortOf" "[I", Cond.methodLink RX8 124 yX8_lagOf, Cond.instanceMethod yX8_lagOf, Cond.selects RX8 yX8_lagOf yX8_lagOf, Cond.code yX8_lagOf cX8_lagOf 4 (some .int), Cond.constant RX8 106 (-1000000)]
def wsX8_ahead_r2 : List Cond := [Cond.fieldLink RX8 16 "TownClocksModel" "lag" "[I", Cond.fieldLink RX8 7 "TownClocksModel" "parent" "[I"]
def wsX8_ahead : List Cond := .code yX8_ahead cX8_ahead 3 (some .int) :: ((wsX8_ahead_r1 ++ wsX8_ahead_r2) ++ wsX80)
def wsX8_mark : List Cond := .code yX8_mark cX8_mark 5 (some .int) :: ([.fieldLink RX8 95 "TownClocksModel" "thrown" "I", .constant RX8 115 (-1000001), .fieldLink RX8 50 "TownClocksModel" "isMarked" "[Z", .fieldLink RX8 128 "TownClocksModel" "dials" "I", .methodLink RX8 157 yX8_isDial, .instanceMethod yX8_isDial, .selects RX8 yX8_isDial yX8_isDial, .initialized RX8, .code yX8_isDial cX8_isDial 2 (some .boolean), .methodLink RX8 102 yX8_in, .static yX8_in, .code yX8_in cX8_in 6 (some .boolean)] ++ wsX80)
def wsX8_isExplained : List Cond := .code yX8_isExplained cX8_isExplained 5 (some .boolean) :: ([.fieldLink RX8 128 "TownClocksModel" "dials" "I", .fieldLink RX8 71 "TownClocksModel" "isLooked" "[Z", .fieldLink RX8 22 "TownClocksModel" "air" "[I", .fieldLink RX8 25 "TownClocksModel" "on" "[I", .fieldLink RX8 28 "TownClocksModel" "need" "[I", .fieldLink RX8 50 "TownClocksModel" "isMarked" "[Z", .methodLink RX8 175 yX8_findAirBy, .instanceMethod yX8_findAirBy, .selects RX8 yX8_findAirBy yX8_findAirBy, .initialized RX8, .code yX8_findAirBy cX8_findAirBy 5 none, .fieldLink RX8 99 "TownClocksModel" "pipes" "I", .fieldLink RX8 7 "TownClocksModel" "parent" "[I", .constant RX8 106 (-1000000), .fieldLink RX8 13 "TownClocksModel" "loss" "[I"] ++ wsX80)
def wsX8_findAll : List Cond := .code yX8_findAll cX8_findAll 3 none :: ([.constant RX8 106 (-1000000), .fieldLink RX8 128 "TownClocksModel" "dials" "I", .fieldLink RX8 71 "TownClocksModel" "isLooked" "[Z", .fieldLink RX8 22 "TownClocksModel" "air" "[I", .fieldLink RX8 25 "TownClocksModel" "on" "[I", .fieldLink RX8 28 "TownClocksModel" "need" "[I", .fieldLink RX8 179 "TownClocksModel" "found" "I", .fieldLink RX8 99 "TownClocksModel" "pipes" "I", .fieldLink RX8 65 "TownClocksModel" "foundPipe" "[I", .fieldLink RX8 68 "TownClocksModel" "foundLeak" "[I", .methodLink RX8 175 yX8_findAirBy, .instanceMethod yX8_findAirBy, .selects RX8 yX8_findAirBy yX8_findAirBy, .initialized RX8, .code yX8_findAirBy cX8_findAirBy 5 none, .fieldLink RX8 7 "TownClocksModel" "parent" "[I", .fieldLink RX8 13 "TownClocksModel" "loss" "[I", .methodLink RX8 182 yX8_isExplained, .instanceMethod yX8_isExplained, .selects RX8 yX8_isExplained yX8_isExplained, .code yX8_isExplained cX8_isExplained 5 (some .boolean), .fieldLink RX8 50 "TownClocksModel" "isMarked" "[Z"] ++ wsX80)
def wsX8_explains_r1 : List Cond := [Cond.fieldLink RX8 95 "TownClocksModel" "thrown" "I", Cond.constant RX8 115 (-1000001), Cond.fieldLink RX8 179 "TownClocksModel" "found" "I", Cond.constant RX8 106 (-1000000), Cond.fieldLink RX8 65 "TownClocksModel" "foundPipe" "[I", Cond.fieldLink RX8 68 "TownClocksModel" "foundLeak" "[I", Cond.methodLink RX8 102 yX8_in, Cond.static yX8_in, Cond.initialized RX8, Cond.code yX8_in cX8_in 6 (some .boolean), Cond.methodLink RX8 186 yX8_findAll, Cond.instanceMethod yX8_findAll, Cond.selects RX8 yX8_findAll yX8_findAll, Cond.code yX8_findAll cX8_findAll 3 none, Cond.fieldLink RX8 128 "TownClocksModel" "dials" "I", Cond.fieldLink RX8 71 "TownClocksModel" "isLooked" "[Z", Cond.fieldLink RX8 22 "TownClocksModel" "air" "[I", Cond.fieldLink RX8 25 "TownClocksModel" "on" "[I", Cond.fieldLink RX8 28 "TownClocksModel" "need" "[I", Cond.fieldLink RX8 99 "TownClocksModel" "pipes" "I", Cond.methodLink RX8 175 yX8_findAirBy, Cond.instanceMethod yX8_findAirBy, Cond.selects RX8 yX8_findAirBy yX8_findAirBy, Cond.code yX8_findAirBy cX8_findAirBy 5 none]
def wsX8_explains_r2 : List Cond := [Cond.fieldLink RX8 7 "TownClocksModel" "parent" "[I", Cond.fieldLink RX8 13 "TownClocksModel" "loss" "[I", Cond.methodLink RX8 182 yX8_isExplained, Cond.instanceMethod yX8_isExplained, Cond.selects RX8 yX8_isExplained yX8_isExplained, Cond.code yX8_isExplained cX8_isExplained 5 (some .boolean), Cond.fieldLink RX8 50 "TownClocksModel" "isMarked" "[Z"]
def wsX8_explains : List Cond := .code yX8_explains cX8_explains 3 (some .int) :: ((wsX8_explains_r1 ++ wsX8_explains_r2) ++ wsX80)
def wsX8_next_r1 : List Cond := [Cond.fieldLink RX8 95 "TownClocksModel" "thrown" "I", Cond.fieldLink RX8 179 "TownClocksModel" "found" "I", Cond.fieldLink RX8 128 "TownClocksModel" "dials" "I", Cond.constant RX8 106 (-1000000), Cond.fieldLink RX8 65 "TownClocksModel" "foundPipe" "[I", Cond.fieldLink RX8 68 "TownClocksModel" "foundLeak" "[I", Cond.fieldLink RX8 99 "TownClocksModel" "pipes" "I", Cond.fieldLink RX8 74 "TownClocksModel" "airBy" "[I", Cond.fieldLink RX8 22 "TownClocksModel" "air" "[I", Cond.fieldLink RX8 25 "TownClocksModel" "on" "[I", Cond.methodLink RX8 186 yX8_findAll, Cond.instanceMethod yX8_findAll, Cond.selects RX8 yX8_findAll yX8_findAll, Cond.initialized RX8, Cond.code yX8_findAll cX8_findAll 3 none, Cond.fieldLink RX8 71 "TownClocksModel" "isLooked" "[Z", Cond.fieldLink RX8 28 "TownClocksModel" "need" "[I", Cond.methodLink RX8 175 yX8_findAirBy, Cond.instanceMethod yX8_findAirBy, Cond.selects RX8 yX8_findAirBy yX8_findAirBy, Cond.code yX8_findAirBy cX8_findAirBy 5 none, Cond.fieldLink RX8 7 "TownClocksModel" "parent" "[I", Cond.fieldLink RX8 13 "TownClocksModel" "loss" "[I", Cond.methodLink RX8 182 yX8_isExplained]
def wsX8_next_r2 : List Cond := [Cond.instanceMethod yX8_isExplained, Cond.selects RX8 yX8_isExplained yX8_isExplained, Cond.code yX8_isExplained cX8_isExplained 5 (some .boolean), Cond.fieldLink RX8 50 "TownClocksModel" "isMarked" "[Z"]
def wsX8_next : List Cond := .code yX8_next cX8_next 7 (some .int) :: ((wsX8_next_r1 ++ wsX8_next_r2) ++ wsX80)
def wsX8_feed : List Cond := .code yX8_feed cX8_feed 5 (some .int) :: ([.fieldLink RX8 95 "TownClocksModel" "thrown" "I", .constantLong RX8 189 (8), .constant RX8 115 (-1000001), .fieldLink RX8 191 "TownClocksModel" "taped" "I", .constant RX8 116 (-1000003), .fieldLink RX8 77 "TownClocksModel" "tape" "[I", .constantLong RX8 194 (255), .methodLink RX8 102 yX8_in, .static yX8_in, .initialized RX8, .code yX8_in cX8_in 6 (some .boolean)] ++ wsX80)
def wsX8_byteAt : List Cond := .code yX8_byteAt cX8_byteAt 2 (some .int) :: ([.fieldLink RX8 196 "TownClocksModel" "size" "I", .fieldLink RX8 77 "TownClocksModel" "tape" "[I", .constant RX8 106 (-1000000)] ++ wsX80)
def wsX8_isLetter : List Cond := .code yX8_isLetter cX8_isLetter 1 (some .boolean) :: ([])
def wsX8_isFigure : List Cond := .code yX8_isFigure cX8_isFigure 1 (some .boolean) :: ([])
def wsX8_step : List Cond := .code yX8_step cX8_step 2 none :: ([.fieldLink RX8 198 "TownClocksModel" "at" "I", .fieldLink RX8 204 "TownClocksModel" "place" "I", .constant RX8 106 (-1000000), .fieldLink RX8 207 "TownClocksModel" "sort" "I", .fieldLink RX8 216 "TownClocksModel" "end" "I", .methodLink RX8 201 yX8_byteAt, .instanceMethod yX8_byteAt, .selects RX8 yX8_byteAt yX8_byteAt, .initialized RX8, .code yX8_byteAt cX8_byteAt 2 (some .int), .fieldLink RX8 196 "TownClocksModel" "size" "I", .fieldLink RX8 77 "TownClocksModel" "tape" "[I", .methodLink RX8 210 yX8_isLetter, .static yX8_isLetter, .code yX8_isLetter cX8_isLetter 1 (some .boolean), .methodLink RX8 213 yX8_isFigure, .static yX8_isFigure, .code yX8_isFigure cX8_isFigure 1 (some .boolean)] ++ wsX80)
def wsX8_bad : List Cond := .code yX8_bad cX8_bad 2 none :: ([.fieldLink RX8 219 "TownClocksModel" "fault" "I", .fieldLink RX8 204 "TownClocksModel" "place" "I", .fieldLink RX8 222 "TownClocksModel" "faultAt" "I"] ++ wsX80)
def wsX8_take_r1 : List Cond := [Cond.fieldLink RX8 219 "TownClocksModel" "fault" "I", Cond.methodLink RX8 225 yX8_bad, Cond.instanceMethod yX8_bad, Cond.selects RX8 yX8_bad yX8_bad, Cond.initialized RX8, Cond.code yX8_bad cX8_bad 2 none, Cond.fieldLink RX8 204 "TownClocksModel" "place" "I", Cond.fieldLink RX8 222 "TownClocksModel" "faultAt" "I", Cond.methodLink RX8 228 yX8_step, Cond.instanceMethod yX8_step, Cond.selects RX8 yX8_step yX8_step, Cond.code yX8_step cX8_step 2 none, Cond.fieldLink RX8 198 "TownClocksModel" "at" "I", Cond.constant RX8 106 (-1000000), Cond.fieldLink RX8 207 "TownClocksModel" "sort" "I", Cond.fieldLink RX8 216 "TownClocksModel" "end" "I", Cond.methodLink RX8 201 yX8_byteAt, Cond.instanceMethod yX8_byteAt, Cond.selects RX8 yX8_byteAt yX8_byteAt, Cond.code yX8_byteAt cX8_byteAt 2 (some .int), Cond.fieldLink RX8 196 "TownClocksModel" "size" "I", Cond.fieldLink RX8 77 "TownClocksModel" "tape" "[I", Cond.methodLink RX8 210 yX8_isLetter, Cond.static yX8_isLetter]
def wsX8_take_r2 : List Cond := [Cond.code yX8_isLetter cX8_isLetter 1 (some .boolean), Cond.methodLink RX8 213 yX8_isFigure, Cond.static yX8_isFigure, Cond.code yX8_isFigure cX8_isFigure 1 (some .boolean)]
def wsX8_take : List Cond := .code yX8_take cX8_take 2 none :: ((wsX8_take_r1 ++ wsX8_take_r2) ++ wsX80)
def wsX8_is : List Cond := .code yX8_is cX8_is 2 (some .boolean) :: ([.fieldLink RX8 207 "TownClocksModel" "sort" "I", .fieldLink RX8 77 "TownClocksModel" "tape" "[I", .fieldLink RX8 204 "TownClocksModel" "place" "I"] ++ wsX80)
def wsX8_name : List Cond := .code yX8_name cX8_name 4 (some .long) :: ([.fieldLink RX8 204 "TownClocksModel" "place" "I", .fieldLink RX8 216 "TownClocksModel" "end" "I", .fieldLink RX8 207 "TownClocksModel" "sort" "I", .fieldLink RX8 77 "TownClocksModel" "tape" "[I"] ++ wsX80)
def wsX8_number : List Cond := .code yX8_number cX8_number 3 (some .int) :: ([.fieldLink RX8 204 "TownClocksModel" "place" "I", .fieldLink RX8 216 "TownClocksModel" "end" "I", .fieldLink RX8 207 "TownClocksModel" "sort" "I", .fieldLink RX8 77 "TownClocksModel" "tape" "[I"] ++ wsX80)
def wsX8_readOne_r1 : List Cond := [Cond.constantLong RX8 235 (1684627820), Cond.fieldLink RX8 219 "TownClocksModel" "fault" "I", Cond.fieldLink RX8 207 "TownClocksModel" "sort" "I", Cond.constantLong RX8 245 (1718378868), Cond.constantLong RX8 247 (491394656372), Cond.constantLong RX8 249 (1818588019), Cond.fieldLink RX8 80 "TownClocksModel" "toldDial" "[I", Cond.fieldLink RX8 254 "TownClocksModel" "told" "I", Cond.fieldLink RX8 83 "TownClocksModel" "toldSort" "[I", Cond.fieldLink RX8 86 "TownClocksModel" "toldFirst" "[I", Cond.fieldLink RX8 89 "TownClocksModel" "toldSecond" "[I", Cond.methodLink RX8 231 yX8_name, Cond.instanceMethod yX8_name, Cond.selects RX8 yX8_name yX8_name, Cond.initialized RX8, Cond.code yX8_name cX8_name 4 (some .long), Cond.fieldLink RX8 204 "TownClocksModel" "place" "I", Cond.fieldLink RX8 216 "TownClocksModel" "end" "I", Cond.fieldLink RX8 77 "TownClocksModel" "tape" "[I", Cond.methodLink RX8 237 yX8_take, Cond.instanceMethod yX8_take, Cond.selects RX8 yX8_take yX8_take, Cond.code yX8_take cX8_take 2 none, Cond.methodLink RX8 225 yX8_bad]
def wsX8_readOne_r2 : List Cond := [Cond.instanceMethod yX8_bad, Cond.selects RX8 yX8_bad yX8_bad, Cond.code yX8_bad cX8_bad 2 none, Cond.fieldLink RX8 222 "TownClocksModel" "faultAt" "I", Cond.methodLink RX8 228 yX8_step, Cond.instanceMethod yX8_step, Cond.selects RX8 yX8_step yX8_step, Cond.code yX8_step cX8_step 2 none, Cond.fieldLink RX8 198 "TownClocksModel" "at" "I", Cond.constant RX8 106 (-1000000), Cond.methodLink RX8 201 yX8_byteAt, Cond.instanceMethod yX8_byteAt, Cond.selects RX8 yX8_byteAt yX8_byteAt, Cond.code yX8_byteAt cX8_byteAt 2 (some .int), Cond.fieldLink RX8 196 "TownClocksModel" "size" "I", Cond.methodLink RX8 210 yX8_isLetter, Cond.static yX8_isLetter, Cond.code yX8_isLetter cX8_isLetter 1 (some .boolean), Cond.methodLink RX8 213 yX8_isFigure, Cond.static yX8_isFigure, Cond.code yX8_isFigure cX8_isFigure 1 (some .boolean), Cond.methodLink RX8 241 yX8_number, Cond.instanceMethod yX8_number, Cond.selects RX8 yX8_number yX8_number]
def wsX8_readOne_r3 : List Cond := [Cond.code yX8_number cX8_number 3 (some .int), Cond.methodLink RX8 157 yX8_isDial, Cond.instanceMethod yX8_isDial, Cond.selects RX8 yX8_isDial yX8_isDial, Cond.code yX8_isDial cX8_isDial 2 (some .boolean), Cond.fieldLink RX8 128 "TownClocksModel" "dials" "I", Cond.methodLink RX8 102 yX8_in, Cond.static yX8_in, Cond.code yX8_in cX8_in 6 (some .boolean), Cond.methodLink RX8 251 yX8_is, Cond.instanceMethod yX8_is, Cond.selects RX8 yX8_is yX8_is, Cond.code yX8_is cX8_is 2 (some .boolean)]
def wsX8_readOne : List Cond := .code yX8_readOne cX8_readOne 7 none :: ((wsX8_readOne_r1 ++ (wsX8_readOne_r2 ++ wsX8_readOne_r3)) ++ wsX80)
def wsX8_contracts_r1 : List Cond := [Cond.fieldLink RX8 95 "TownClocksModel" "thrown" "I", Cond.fieldLink RX8 191 "TownClocksModel" "taped" "I", Cond.fieldLink RX8 196 "TownClocksModel" "size" "I", Cond.fieldLink RX8 198 "TownClocksModel" "at" "I", Cond.fieldLink RX8 219 "TownClocksModel" "fault" "I", Cond.fieldLink RX8 254 "TownClocksModel" "told" "I", Cond.fieldLink RX8 207 "TownClocksModel" "sort" "I", Cond.fieldLink RX8 260 "TownClocksModel" "latest" "I", Cond.constant RX8 263 (-1000100), Cond.fieldLink RX8 222 "TownClocksModel" "faultAt" "I", Cond.fieldLink RX8 80 "TownClocksModel" "toldDial" "[I", Cond.fieldLink RX8 53 "TownClocksModel" "contract" "[I", Cond.fieldLink RX8 83 "TownClocksModel" "toldSort" "[I", Cond.fieldLink RX8 56 "TownClocksModel" "first" "[I", Cond.fieldLink RX8 86 "TownClocksModel" "toldFirst" "[I", Cond.fieldLink RX8 59 "TownClocksModel" "second" "[I", Cond.fieldLink RX8 89 "TownClocksModel" "toldSecond" "[I", Cond.fieldLink RX8 62 "TownClocksModel" "owed" "[I", Cond.methodLink RX8 228 yX8_step, Cond.instanceMethod yX8_step, Cond.selects RX8 yX8_step yX8_step, Cond.initialized RX8, Cond.code yX8_step cX8_step 2 none, Cond.fieldLink RX8 204 "TownClocksModel" "place" "I"]
def wsX8_contracts_r2 : List Cond := [Cond.constant RX8 106 (-1000000), Cond.fieldLink RX8 216 "TownClocksModel" "end" "I", Cond.methodLink RX8 201 yX8_byteAt, Cond.instanceMethod yX8_byteAt, Cond.selects RX8 yX8_byteAt yX8_byteAt, Cond.code yX8_byteAt cX8_byteAt 2 (some .int), Cond.fieldLink RX8 77 "TownClocksModel" "tape" "[I", Cond.methodLink RX8 210 yX8_isLetter, Cond.static yX8_isLetter, Cond.code yX8_isLetter cX8_isLetter 1 (some .boolean), Cond.methodLink RX8 213 yX8_isFigure, Cond.static yX8_isFigure, Cond.code yX8_isFigure cX8_isFigure 1 (some .boolean), Cond.methodLink RX8 257 yX8_readOne, Cond.instanceMethod yX8_readOne, Cond.selects RX8 yX8_readOne yX8_readOne, Cond.code yX8_readOne cX8_readOne 7 none, Cond.constantLong RX8 235 (1684627820), Cond.constantLong RX8 245 (1718378868), Cond.constantLong RX8 247 (491394656372), Cond.constantLong RX8 249 (1818588019), Cond.methodLink RX8 231 yX8_name, Cond.instanceMethod yX8_name, Cond.selects RX8 yX8_name yX8_name]
def wsX8_contracts_r3 : List Cond := [Cond.code yX8_name cX8_name 4 (some .long), Cond.methodLink RX8 237 yX8_take, Cond.instanceMethod yX8_take, Cond.selects RX8 yX8_take yX8_take, Cond.code yX8_take cX8_take 2 none, Cond.methodLink RX8 225 yX8_bad, Cond.instanceMethod yX8_bad, Cond.selects RX8 yX8_bad yX8_bad, Cond.code yX8_bad cX8_bad 2 none, Cond.methodLink RX8 241 yX8_number, Cond.instanceMethod yX8_number, Cond.selects RX8 yX8_number yX8_number, Cond.code yX8_number cX8_number 3 (some .int), Cond.methodLink RX8 157 yX8_isDial, Cond.instanceMethod yX8_isDial, Cond.selects RX8 yX8_isDial yX8_isDial, Cond.code yX8_isDial cX8_isDial 2 (some .boolean), Cond.fieldLink RX8 128 "TownClocksModel" "dials" "I", Cond.methodLink RX8 102 yX8_in, Cond.static yX8_in, Cond.code yX8_in cX8_in 6 (some .boolean), Cond.methodLink RX8 251 yX8_is, Cond.instanceMethod yX8_is, Cond.selects RX8 yX8_is yX8_is]
def wsX8_contracts_r4 : List Cond := [Cond.code yX8_is cX8_is 2 (some .boolean)]
def wsX8_contracts : List Cond := .code yX8_contracts cX8_contracts 3 (some .int) :: ((wsX8_contracts_r1 ++ (wsX8_contracts_r2 ++ (wsX8_contracts_r3 ++ wsX8_contracts_r4))) ++ wsX80)
def wsX8_fault : List Cond := .code yX8_fault cX8_fault 1 (some .int) :: ([.fieldLink RX8 95 "TownClocksModel" "thrown" "I", .fieldLink RX8 260 "TownClocksModel" "latest" "I"] ++ wsX80)
def wsX8_owes : List Cond := .code yX8_owes cX8_owes 2 (some .int) :: ([.fieldLink RX8 95 "TownClocksModel" "thrown" "I", .fieldLink RX8 62 "TownClocksModel" "owed" "[I", .constant RX8 115 (-1000001), .methodLink RX8 157 yX8_isDial, .instanceMethod yX8_isDial, .selects RX8 yX8_isDial yX8_isDial, .initialized RX8, .code yX8_isDial cX8_isDial 2 (some .boolean), .fieldLink RX8 128 "TownClocksModel" "dials" "I", .methodLink RX8 102 yX8_in, .static yX8_in, .code yX8_in cX8_in 6 (some .boolean)] ++ wsX80)
def wsX8_kind : List Cond := .code yX8_kind cX8_kind 2 (some .int) :: ([.fieldLink RX8 95 "TownClocksModel" "thrown" "I", .constant RX8 115 (-1000001), .methodLink RX8 157 yX8_isDial, .instanceMethod yX8_isDial, .selects RX8 yX8_isDial yX8_isDial, .initialized RX8, .code yX8_isDial cX8_isDial 2 (some .boolean), .fieldLink RX8 128 "TownClocksModel" "dials" "I", .methodLink RX8 102 yX8_in, .static yX8_in, .code yX8_in cX8_in 6 (some .boolean), .methodLink RX8 171 yX8_kindOf, .instanceMethod yX8_kindOf, .selects RX8 yX8_kindOf yX8_kindOf, .code yX8_kindOf cX8_kindOf 2 (some .int), .fieldLink RX8 37 "TownClocksModel" "running" "[I", .fieldLink RX8 31 "TownClocksModel" "sortOf" "[I"] ++ wsX80)
def wsX8_as : List Cond := .code yX8_as cX8_as 4 (some .int) :: ([.fieldLink RX8 95 "TownClocksModel" "thrown" "I", .constantLong RX8 264 (3), .constant RX8 115 (-1000001), .fieldLink RX8 34 "TownClocksModel" "late" "[I", .constant RX8 174 (-1000004), .methodLink RX8 157 yX8_isDial, .instanceMethod yX8_isDial, .selects RX8 yX8_isDial yX8_isDial, .initialized RX8, .code yX8_isDial cX8_isDial 2 (some .boolean), .fieldLink RX8 128 "TownClocksModel" "dials" "I", .methodLink RX8 102 yX8_in, .static yX8_in, .code yX8_in cX8_in 6 (some .boolean), .methodLink RX8 171 yX8_kindOf, .instanceMethod yX8_kindOf, .selects RX8 yX8_kindOf yX8_kindOf, .code yX8_kindOf cX8_kindOf 2 (some .int), .fieldLink RX8 37 "TownClocksModel" "running" "[I", .fieldLink RX8 31 "TownClocksModel" "sortOf" "[I"] ++ wsX80)
def wsX8_began : List Cond := .code yX8_began cX8_began 2 none :: ([.fieldLink RX8 266 "TownClocksModel" "traced" "I", .fieldLink RX8 92 "TownClocksModel" "trace" "[I"] ++ wsX80)
def wsX8_weight : List Cond := .code yX8_weight cX8_weight 5 (some .int) :: ([.fieldLink RX8 34 "TownClocksModel" "late" "[I", .methodLink RX8 171 yX8_kindOf, .instanceMethod yX8_kindOf, .selects RX8 yX8_kindOf yX8_kindOf, .initialized RX8, .code yX8_kindOf cX8_kindOf 2 (some .int), .fieldLink RX8 37 "TownClocksModel" "running" "[I", .fieldLink RX8 31 "TownClocksModel" "sortOf" "[I", .methodLink RX8 269 yX8_began, .instanceMethod yX8_began, .selects RX8 yX8_began yX8_began, .code yX8_began cX8_began 2 none, .fieldLink RX8 266 "TownClocksModel" "traced" "I", .fieldLink RX8 92 "TownClocksModel" "trace" "[I"] ++ wsX80)
def wsX8_marked : List Cond := .code yX8_marked cX8_marked 4 (some .int) :: ([.fieldLink RX8 28 "TownClocksModel" "need" "[I", .methodLink RX8 171 yX8_kindOf, .instanceMethod yX8_kindOf, .selects RX8 yX8_kindOf yX8_kindOf, .initialized RX8, .code yX8_kindOf cX8_kindOf 2 (some .int), .fieldLink RX8 37 "TownClocksModel" "running" "[I", .fieldLink RX8 31 "TownClocksModel" "sortOf" "[I", .methodLink RX8 269 yX8_began, .instanceMethod yX8_began, .selects RX8 yX8_began yX8_began, .code yX8_began cX8_began 2 none, .fieldLink RX8 266 "TownClocksModel" "traced" "I", .fieldLink RX8 92 "TownClocksModel" "trace" "[I", .methodLink RX8 272 yX8_weight, .instanceMethod yX8_weight, .selects RX8 yX8_weight yX8_weight, .code yX8_weight cX8_weight 5 (some .int), .fieldLink RX8 34 "TownClocksModel" "late" "[I"] ++ wsX80)
def wsX8_ask_r1 : List Cond := [Cond.fieldLink RX8 95 "TownClocksModel" "thrown" "I", Cond.constant RX8 115 (-1000001), Cond.fieldLink RX8 266 "TownClocksModel" "traced" "I", Cond.methodLink RX8 157 yX8_isDial, Cond.instanceMethod yX8_isDial, Cond.selects RX8 yX8_isDial yX8_isDial, Cond.initialized RX8, Cond.code yX8_isDial cX8_isDial 2 (some .boolean), Cond.fieldLink RX8 128 "TownClocksModel" "dials" "I", Cond.methodLink RX8 102 yX8_in, Cond.static yX8_in, Cond.code yX8_in cX8_in 6 (some .boolean), Cond.methodLink RX8 272 yX8_weight, Cond.instanceMethod yX8_weight, Cond.selects RX8 yX8_weight yX8_weight, Cond.code yX8_weight cX8_weight 5 (some .int), Cond.fieldLink RX8 34 "TownClocksModel" "late" "[I", Cond.methodLink RX8 171 yX8_kindOf, Cond.instanceMethod yX8_kindOf, Cond.selects RX8 yX8_kindOf yX8_kindOf, Cond.code yX8_kindOf cX8_kindOf 2 (some .int), Cond.fieldLink RX8 37 "TownClocksModel" "running" "[I", Cond.fieldLink RX8 31 "TownClocksModel" "sortOf" "[I", Cond.methodLink RX8 269 yX8_began]
def wsX8_ask_r2 : List Cond := [Cond.instanceMethod yX8_began, Cond.selects RX8 yX8_began yX8_began, Cond.code yX8_began cX8_began 2 none, Cond.fieldLink RX8 92 "TownClocksModel" "trace" "[I", Cond.methodLink RX8 275 yX8_marked, Cond.instanceMethod yX8_marked, Cond.selects RX8 yX8_marked yX8_marked, Cond.code yX8_marked cX8_marked 4 (some .int), Cond.fieldLink RX8 28 "TownClocksModel" "need" "[I"]
def wsX8_ask : List Cond := .code yX8_ask cX8_ask 3 (some .int) :: ((wsX8_ask_r1 ++ wsX8_ask_r2) ++ wsX80)
def wsX8_trace : List Cond := .code yX8_trace cX8_trace 2 (some .int) :: ([.fieldLink RX8 95 "TownClocksModel" "thrown" "I", .fieldLink RX8 266 "TownClocksModel" "traced" "I", .fieldLink RX8 92 "TownClocksModel" "trace" "[I", .constant RX8 106 (-1000000), .methodLink RX8 102 yX8_in, .static yX8_in, .initialized RX8, .code yX8_in cX8_in 6 (some .boolean)] ++ wsX80)
def wsX8_count : List Cond := .code yX8_count cX8_count 6 (some .int) :: ([.fieldLink RX8 95 "TownClocksModel" "thrown" "I", .constantLong RX8 278 (7), .constant RX8 115 (-1000001), .fieldLink RX8 99 "TownClocksModel" "pipes" "I", .fieldLink RX8 128 "TownClocksModel" "dials" "I", .fieldLink RX8 191 "TownClocksModel" "taped" "I", .fieldLink RX8 46 "TownClocksModel" "hasMissed" "[Z", .fieldLink RX8 53 "TownClocksModel" "contract" "[I", .fieldLink RX8 34 "TownClocksModel" "late" "[I", .methodLink RX8 102 yX8_in, .static yX8_in, .initialized RX8, .code yX8_in cX8_in 6 (some .boolean), .methodLink RX8 171 yX8_kindOf, .instanceMethod yX8_kindOf, .selects RX8 yX8_kindOf yX8_kindOf, .code yX8_kindOf cX8_kindOf 2 (some .int), .fieldLink RX8 37 "TownClocksModel" "running" "[I", .fieldLink RX8 31 "TownClocksModel" "sortOf" "[I", .methodLink RX8 168 yX8_size, .static yX8_size, .code yX8_size cX8_size 1 (some .int)] ++ wsX80)
def wsJ9_abs_0f7a4 : List Cond := .code yJ9_abs_0f7a4 cJ9_abs_0f7a4 1 (some .int) :: ([])
def wsJ9_max_7cf53 : List Cond := .code yJ9_max_7cf53 cJ9_max_7cf53 2 (some .int) :: ([])
def wsJ9_min_7cf53 : List Cond := .code yJ9_min_7cf53 cJ9_min_7cf53 2 (some .int) :: ([])
def wsL_law_r1 : List Cond := [Cond.classLink RL 7 RX7, Cond.instantiable RX7 8, Cond.initialized RX7, Cond.classLink RL 10 RX8, Cond.instantiable RX8 48, Cond.initialized RX8, Cond.constantLong RL 87 (4294967295), Cond.methodLink RL 9 yX7_init, Cond.instanceMethod yX7_init, Cond.code yX7_init cX7_init 1 none, Cond.methodLink RX7 1 objectInit, Cond.instanceMethod objectInit, Cond.code objectInit ⟨#[0xb1]⟩ 1 none, Cond.classLink RX7 7 RJx4a65c, Cond.instantiable RJx4a65c 3, Cond.initialized RJx4a65c, Cond.fieldLink RX7 10 "TownClocks" "pipes" "Ljava/util/ArrayList;", Cond.fieldLink RX7 16 "TownClocks" "dials" "Ljava/util/ArrayList;", Cond.classLink RX7 19 RX2, Cond.instantiable RX2 5, Cond.initialized RX2, Cond.fieldLink RX7 22 "TownClocks" "master" "LTownClocks$Master;", Cond.classLink RX7 26 RX1, Cond.instantiable RX1 4]
def wsL_law_r2 : List Cond := [Cond.initialized RX1, Cond.fieldLink RX7 29 "TownClocks" "explanations" "LTownClocks$Explanations;", Cond.classLink RX7 33 RX5, Cond.instantiable RX5 5, Cond.initialized RX5, Cond.fieldLink RX7 36 "TownClocks" "tape" "LTownClocks$Tape;", Cond.classLink RX7 40 RX4, Cond.instantiable RX4 7, Cond.initialized RX4, Cond.fieldLink RX7 45 "TownClocks" "reading" "LTownClocks$Reading;", Cond.classLink RX7 49 RX6, Cond.instantiable RX6 2, Cond.initialized RX6, Cond.fieldLink RX7 52 "TownClocks" "bodies" "LTownClocks$Trace;", Cond.methodLink RX7 9 yJx4a65c_init_da8c8, Cond.instanceMethod yJx4a65c_init_da8c8, Cond.code yJx4a65c_init_da8c8 cJx4a65c_init_da8c8 1 none, Cond.fieldLink RJx4a65c 39 "java/util/ArrayList" "DEFAULTCAPACITY_EMPTY_ELEMENTDATA" "[Ljava/lang/Object;", Cond.fieldLink RJx4a65c 9 "java/util/ArrayList" "elementData" "[Ljava/lang/Object;", Cond.methodLink RJx4a65c 1 yJxc12de_init_da8c8, Cond.instanceMethod yJxc12de_init_da8c8, Cond.initialized RJxc12de, Cond.code yJxc12de_init_da8c8 cJxc12de_init_da8c8 1 none, Cond.fieldLink RJxc12de 7 "java/util/AbstractList" "modCount" "I"]
def wsL_law_r3 : List Cond := [Cond.methodLink RJxc12de 1 yJxa1e45_init_da8c8, Cond.instanceMethod yJxa1e45_init_da8c8, Cond.initialized RJxa1e45, Cond.code yJxa1e45_init_da8c8 cJxa1e45_init_da8c8 1 none, Cond.methodLink RJxa1e45 1 objectInit, Cond.instanceMethod yX2_init, Cond.code yX2_init cX2_init 1 none, Cond.methodLink RX2 1 objectInit, Cond.instanceMethod yX1_init, Cond.code yX1_init cX1_init 1 none, Cond.methodLink RX1 3 objectInit, Cond.arrayClass .int, Cond.fieldLink RX1 9 "TownClocks$Explanations" "pipe" "[I", Cond.fieldLink RX1 15 "TownClocks$Explanations" "leastLeak" "[I", Cond.fieldLink RX1 18 "TownClocks$Explanations" "likeAir" "[I", Cond.instanceMethod yX5_init, Cond.code yX5_init cX5_init 1 none, Cond.methodLink RX5 3 objectInit, Cond.arrayClass .byte, Cond.fieldLink RX5 9 "TownClocks$Tape" "bytes" "[B", Cond.methodLink RX7 42 yX4_init, Cond.instanceMethod yX4_init, Cond.code yX4_init cX4_init 2 none, Cond.methodLink RX4 3 objectInit]
def wsL_law_r4 : List Cond := [Cond.fieldLink RX4 9 "TownClocks$Reading" "waitingTerms" "[I", Cond.fieldLink RX4 15 "TownClocks$Reading" "waitingBelow" "[I", Cond.fieldLink RX4 18 "TownClocks$Reading" "waitingPays" "[I", Cond.fieldLink RX4 21 "TownClocks$Reading" "tape" "LTownClocks$Tape;", Cond.instanceMethod yX6_init, Cond.code yX6_init cX6_init 1 none, Cond.methodLink RX6 1 objectInit, Cond.fieldLink RX6 9 "TownClocks$Trace" "numbers" "[I", Cond.methodLink RL 12 yX8_init, Cond.instanceMethod yX8_init, Cond.code yX8_init cX8_init 1 none, Cond.methodLink RX8 1 objectInit, Cond.fieldLink RX8 7 "TownClocksModel" "parent" "[I", Cond.fieldLink RX8 13 "TownClocksModel" "loss" "[I", Cond.fieldLink RX8 16 "TownClocksModel" "lag" "[I", Cond.fieldLink RX8 19 "TownClocksModel" "leak" "[I", Cond.fieldLink RX8 22 "TownClocksModel" "air" "[I", Cond.fieldLink RX8 25 "TownClocksModel" "on" "[I", Cond.fieldLink RX8 28 "TownClocksModel" "need" "[I", Cond.fieldLink RX8 31 "TownClocksModel" "sortOf" "[I", Cond.fieldLink RX8 34 "TownClocksModel" "late" "[I", Cond.fieldLink RX8 37 "TownClocksModel" "running" "[I", Cond.fieldLink RX8 40 "TownClocksModel" "known" "[I", Cond.fieldLink RX8 43 "TownClocksModel" "since" "[I"]
def wsL_law_r5 : List Cond := [Cond.arrayClass .boolean, Cond.fieldLink RX8 46 "TownClocksModel" "hasMissed" "[Z", Cond.fieldLink RX8 50 "TownClocksModel" "isMarked" "[Z", Cond.fieldLink RX8 53 "TownClocksModel" "contract" "[I", Cond.fieldLink RX8 56 "TownClocksModel" "first" "[I", Cond.fieldLink RX8 59 "TownClocksModel" "second" "[I", Cond.fieldLink RX8 62 "TownClocksModel" "owed" "[I", Cond.fieldLink RX8 65 "TownClocksModel" "foundPipe" "[I", Cond.fieldLink RX8 68 "TownClocksModel" "foundLeak" "[I", Cond.fieldLink RX8 71 "TownClocksModel" "isLooked" "[Z", Cond.fieldLink RX8 74 "TownClocksModel" "airBy" "[I", Cond.fieldLink RX8 77 "TownClocksModel" "tape" "[I", Cond.fieldLink RX8 80 "TownClocksModel" "toldDial" "[I", Cond.fieldLink RX8 83 "TownClocksModel" "toldSort" "[I", Cond.fieldLink RX8 86 "TownClocksModel" "toldFirst" "[I", Cond.fieldLink RX8 89 "TownClocksModel" "toldSecond" "[I", Cond.fieldLink RX8 92 "TownClocksModel" "trace" "[I", Cond.methodLink RL 13 yX7_pipe, Cond.instanceMethod yX7_pipe, Cond.selects RX7 yX7_pipe yX7_pipe, Cond.code yX7_pipe cX7_pipe 6 (some .int), Cond.constant RX7 60 (-1000000), Cond.constant RX7 61 (-1000001), Cond.constant RX7 70 (-1000003)]
def wsL_law_r6 : List Cond := [Cond.classLink RX7 71 RX3, Cond.instantiable RX3 6, Cond.initialized RX3, Cond.methodLink RX7 56 yX7_pipeAt, Cond.instanceMethod yX7_pipeAt, Cond.selects RX7 yX7_pipeAt yX7_pipeAt, Cond.code yX7_pipeAt cX7_pipeAt 2 (some (.object "TownClocks$Pipe")), Cond.classLink RX7 71 "TownClocks$Pipe", Cond.methodLink RX7 66 yJx4a65c_size_8abf5, Cond.instanceMethod yJx4a65c_size_8abf5, Cond.selects RJx4a65c yJx4a65c_size_8abf5 yJx4a65c_size_8abf5, Cond.code yJx4a65c_size_8abf5 cJx4a65c_size_8abf5 1 (some .int), Cond.fieldLink RJx4a65c 48 "java/util/ArrayList" "size" "I", Cond.methodLink RX7 62 yX7_within, Cond.static yX7_within, Cond.code yX7_within cX7_within 3 (some .boolean), Cond.methodLink RX7 103 yJx4a65c_get_915e3, Cond.instanceMethod yJx4a65c_get_915e3, Cond.selects RJx4a65c yJx4a65c_get_915e3 yJx4a65c_get_915e3, Cond.code yJx4a65c_get_915e3 cJx4a65c_get_915e3 2 (some (.object "java/lang/Object")), Cond.methodLink RJx4a65c 118 yJ15_checkIndex_7cf53, Cond.static yJ15_checkIndex_7cf53, Cond.initialized RJ15, Cond.code yJ15_checkIndex_7cf53 cJ15_checkIndex_7cf53 2 (some .int)]
def wsL_law_r7 : List Cond := [Cond.methodLink RJ15 105 yJ3_checkIndex_8e157, Cond.static yJ3_checkIndex_8e157, Cond.initialized RJ3, Cond.code yJ3_checkIndex_8e157 cJ3_checkIndex_8e157 3 (some .int), Cond.methodLink RJx4a65c 123 yJx4a65c_elementData_915e3, Cond.instanceMethod yJx4a65c_elementData_915e3, Cond.selects RJx4a65c yJx4a65c_elementData_915e3 yJx4a65c_elementData_915e3, Cond.code yJx4a65c_elementData_915e3 cJx4a65c_elementData_915e3 2 (some (.object "java/lang/Object")), Cond.methodLink RX7 73 yX3_init, Cond.instanceMethod yX3_init, Cond.code yX3_init cX3_init 5 none, Cond.methodLink RX3 3 objectInit, Cond.fieldLink RX3 9 "TownClocks$Pipe" "number" "I", Cond.fieldLink RX3 15 "TownClocks$Pipe" "ahead" "LTownClocks$Pipe;", Cond.fieldLink RX3 19 "TownClocks$Pipe" "lossInAll" "I", Cond.fieldLink RX3 22 "TownClocks$Pipe" "lagInAll" "I", Cond.fieldLink RX3 25 "TownClocks$Pipe" "wayBits" "I", Cond.methodLink RX7 76 yJx4a65c_add_9ea2d, Cond.instanceMethod yJx4a65c_add_9ea2d, Cond.selects RJx4a65c yJx4a65c_add_9ea2d yJx4a65c_add_9ea2d, Cond.code yJx4a65c_add_9ea2d cJx4a65c_add_9ea2d 2 (some .boolean), Cond.fieldLink RJx4a65c 63 "java/util/ArrayList" "modCount" "I", Cond.sameField "java/util/ArrayList" "java/util/AbstractList" "modCount" "I", Cond.methodLink RJx4a65c 131 yJx4a65c_add_72be8]
def wsL_law_r8 : List Cond := [Cond.instanceMethod yJx4a65c_add_72be8, Cond.selects RJx4a65c yJx4a65c_add_72be8 yJx4a65c_add_72be8, Cond.code yJx4a65c_add_72be8 cJx4a65c_add_72be8 4 none, Cond.methodLink RJx4a65c 129 yJx4a65c_grow_d5877, Cond.instanceMethod yJx4a65c_grow_d5877, Cond.selects RJx4a65c yJx4a65c_grow_d5877 yJx4a65c_grow_d5877, Cond.code yJx4a65c_grow_d5877 cJx4a65c_grow_d5877 1 (some (.array (.object "java/lang/Object"))), Cond.methodLink RJx4a65c 69 yJx4a65c_grow_92f84, Cond.instanceMethod yJx4a65c_grow_92f84, Cond.selects RJx4a65c yJx4a65c_grow_92f84 yJx4a65c_grow_92f84, Cond.code yJx4a65c_grow_92f84 cJx4a65c_grow_92f84 4 (some (.array (.object "java/lang/Object"))), Cond.methodLink RJx4a65c 79 Lib.Math.max.name, Cond.static Lib.Math.max.name, Cond.initialized "java/lang/Math", Cond.code Lib.Math.max.name Lib.Math.max.code 2 (some .int), Cond.classLink RJx4a65c 7 "java/lang/Object", Cond.methodLink RJx4a65c 73 yJ8_newLength_cabcc, Cond.static yJ8_newLength_cabcc, Cond.initialized RJ8, Cond.code yJ8_newLength_cabcc cJ8_newLength_cabcc 4 (some .int), Cond.methodLink RJ8 194 Lib.Math.max.name, Cond.constant RJ8 200 (2147483639), Cond.methodLink RJ8 201 yJ8_hugeLength_7cf53, Cond.static yJ8_hugeLength_7cf53]
def wsL_law_r9 : List Cond := [Cond.code yJ8_hugeLength_7cf53 cJ8_hugeLength_7cf53 3 (some .int), Cond.methodLink RJx4a65c 66 yJ7_copyOf_1904c, Cond.static yJ7_copyOf_1904c, Cond.initialized RJ7, Cond.code yJ7_copyOf_1904c cJ7_copyOf_1904c 2 (some (.array (.object "java/lang/Object"))), Cond.methodLink RJ7 86 ⟨"java/lang/Object", "getClass", "()Ljava/lang/Class;"⟩, Cond.selects "[Ljava/lang/Object;" ⟨"java/lang/Object", "getClass", "()Ljava/lang/Class;"⟩ ⟨"java/lang/Object", "getClass", "()Ljava/lang/Class;"⟩, Cond.instanceMethod ⟨"java/lang/Object", "getClass", "()Ljava/lang/Class;"⟩, Cond.native ⟨"java/lang/Object", "getClass", "()Ljava/lang/Class;"⟩, Cond.methodLink RJ7 300 yJ7_copyOf_6403c, Cond.static yJ7_copyOf_6403c, Cond.code yJ7_copyOf_6403c cJ7_copyOf_6403c 4 (some (.array (.object "java/lang/Object"))), Cond.classLink RJ7 110 "[Ljava/lang/Object;", Cond.classLink RJ7 2 "java/lang/Object", Cond.methodLink RJ7 304 Lib.Math.min.name, Cond.static Lib.Math.min.name, Cond.code Lib.Math.min.name Lib.Math.min.code 2 (some .int), Cond.methodLink RJ7 150 arraycopyName, Cond.native arraycopyName, Cond.static arraycopyName, Cond.initialized "java/lang/System", Cond.methodLink RL 17 yX8_pipe, Cond.instanceMethod yX8_pipe, Cond.selects RX8 yX8_pipe yX8_pipe]
def wsL_law_r10 : List Cond := [Cond.code yX8_pipe cX8_pipe 4 (some .int), Cond.fieldLink RX8 95 "TownClocksModel" "thrown" "I", Cond.constant RX8 106 (-1000000), Cond.constantLong RX8 111 (50), Cond.constantLong RX8 113 (20), Cond.constant RX8 115 (-1000001), Cond.fieldLink RX8 99 "TownClocksModel" "pipes" "I", Cond.constant RX8 116 (-1000003), Cond.methodLink RX8 107 yX8_isPipe, Cond.instanceMethod yX8_isPipe, Cond.selects RX8 yX8_isPipe yX8_isPipe, Cond.code yX8_isPipe cX8_isPipe 2 (some .boolean), Cond.methodLink RX8 102 yX8_in, Cond.static yX8_in, Cond.code yX8_in cX8_in 6 (some .boolean), Cond.methodLink RL 18 yX7_leak, Cond.instanceMethod yX7_leak, Cond.selects RX7 yX7_leak yX7_leak, Cond.code yX7_leak cX7_leak 5 (some .int), Cond.fieldLink RX7 80 "TownClocks$Pipe" "leak" "I", Cond.methodLink RL 22 yX8_leak, Cond.instanceMethod yX8_leak, Cond.selects RX8 yX8_leak yX8_leak, Cond.code yX8_leak cX8_leak 4 (some .int)]
def wsL_law_r11 : List Cond := [Cond.constantLong RX8 117 (60), Cond.methodLink RL 23 yX7_told, Cond.instanceMethod yX7_told, Cond.selects RX7 yX7_told yX7_told, Cond.code yX7_told cX7_told 4 (some .int), Cond.fieldLink RX7 87 "TownClocks$Pipe" "lagInAll" "I", Cond.methodLink RX7 84 yX3_air, Cond.instanceMethod yX3_air, Cond.selects RX3 yX3_air yX3_air, Cond.code yX3_air cX3_air 3 (some .int), Cond.fieldLink RX3 28 "TownClocks$Pipe" "leak" "I", Cond.methodLink RX3 31 yX3_airBehindLeaks, Cond.instanceMethod yX3_airBehindLeaks, Cond.selects RX3 yX3_airBehindLeaks yX3_airBehindLeaks, Cond.code yX3_airBehindLeaks cX3_airBehindLeaks 2 (some .int), Cond.methodLink RX3 35 Lib.Math.max.name, Cond.methodLink RL 26 yX8_told, Cond.instanceMethod yX8_told, Cond.selects RX8 yX8_told yX8_told, Cond.code yX8_told cX8_told 3 (some .int), Cond.constantLong RX8 119 (2), Cond.methodLink RX8 121 yX8_findAir, Cond.instanceMethod yX8_findAir, Cond.selects RX8 yX8_findAir yX8_findAir]
def wsL_law_r12 : List Cond := [Cond.code yX8_findAir cX8_findAir 3 none, Cond.methodLink RX8 124 yX8_lagOf, Cond.instanceMethod yX8_lagOf, Cond.selects RX8 yX8_lagOf yX8_lagOf, Cond.code yX8_lagOf cX8_lagOf 4 (some .int), Cond.methodLink RL 27 yX7_dial, Cond.instanceMethod yX7_dial, Cond.selects RX7 yX7_dial yX7_dial, Cond.code yX7_dial cX7_dial 6 (some .int), Cond.classLink RX7 90 RX0, Cond.instantiable RX0 12, Cond.initialized RX0, Cond.methodLink RX7 92 yX0_init, Cond.instanceMethod yX0_init, Cond.code yX0_init cX0_init 4 none, Cond.methodLink RX0 3 objectInit, Cond.fieldLink RX0 9 "TownClocks$Dial" "pipe" "LTownClocks$Pipe;", Cond.fieldLink RX0 15 "TownClocks$Dial" "need" "I", Cond.fieldLink RX0 19 "TownClocks$Dial" "sort" "I", Cond.methodLink RL 30 yX8_dial, Cond.instanceMethod yX8_dial, Cond.selects RX8 yX8_dial yX8_dial, Cond.code yX8_dial cX8_dial 4 (some .int), Cond.constantLong RX8 131 (100)]
def wsL_law_r13 : List Cond := [Cond.fieldLink RX8 128 "TownClocksModel" "dials" "I", Cond.methodLink RL 31 yX7_puff, Cond.instanceMethod yX7_puff, Cond.selects RX7 yX7_puff yX7_puff, Cond.code yX7_puff cX7_puff 3 (some .int), Cond.fieldLink RX7 95 "TownClocks$Master" "minute" "I", Cond.constant RX7 98 (100000), Cond.constant RX7 99 (-1000002), Cond.classLink RX7 90 "TownClocks$Dial", Cond.fieldLink RX7 111 "TownClocks" "missedLatest" "I", Cond.methodLink RX7 100 yX2_tellMinute, Cond.instanceMethod yX2_tellMinute, Cond.selects RX2 yX2_tellMinute yX2_tellMinute, Cond.code yX2_tellMinute cX2_tellMinute 1 none, Cond.fieldLink RX2 7 "TownClocks$Master" "minute" "I", Cond.fieldLink RX2 13 "TownClocks$Master" "minutesSinceSighting" "J", Cond.fieldLink RX2 17 "TownClocks$Master" "off" "J", Cond.fieldLink RX2 20 "TownClocks$Master" "drift" "I", Cond.methodLink RX7 107 yX0_takePuff, Cond.instanceMethod yX0_takePuff, Cond.selects RX0 yX0_takePuff yX0_takePuff, Cond.code yX0_takePuff cX0_takePuff 2 (some .boolean), Cond.fieldLink RX0 28 "TownClocks$Dial" "puffsSinceKnown" "I", Cond.fieldLink RX0 31 "TownClocks$Dial" "missedRunning" "I"]
def wsL_law_r14 : List Cond := [Cond.fieldLink RX0 34 "TownClocks$Dial" "late" "I", Cond.fieldLink RX0 41 "TownClocks$Dial" "owed" "I", Cond.fieldLink RX0 44 "TownClocks$Dial" "pays" "I", Cond.methodLink RX0 22 yX3_air, Cond.methodLink RX0 37 yX0_isPaidFor, Cond.instanceMethod yX0_isPaidFor, Cond.selects RX0 yX0_isPaidFor yX0_isPaidFor, Cond.code yX0_isPaidFor cX0_isPaidFor 2 (some .boolean), Cond.fieldLink RX0 47 "TownClocks$Dial" "terms" "I", Cond.fieldLink RX0 50 "TownClocks$Dial" "below" "I", Cond.methodLink RL 35 yX8_puff, Cond.instanceMethod yX8_puff, Cond.selects RX8 yX8_puff yX8_puff, Cond.code yX8_puff cX8_puff 3 (some .int), Cond.fieldLink RX8 133 "TownClocksModel" "minute" "I", Cond.constant RX8 136 (100000), Cond.constant RX8 137 (-1000002), Cond.fieldLink RX8 138 "TownClocksModel" "off" "J", Cond.fieldLink RX8 142 "TownClocksModel" "drift" "I", Cond.methodLink RL 36 yX7_drift, Cond.instanceMethod yX7_drift, Cond.selects RX7 yX7_drift yX7_drift, Cond.code yX7_drift cX7_drift 3 (some .int), Cond.fieldLink RX7 114 "TownClocks$Master" "drift" "I"]
def wsL_law_r15 : List Cond := [Cond.methodLink RL 40 yX8_drift, Cond.instanceMethod yX8_drift, Cond.selects RX8 yX8_drift yX8_drift, Cond.code yX8_drift cX8_drift 3 (some .int), Cond.constantLong RX8 145 (-5), Cond.constantLong RX8 147 (5), Cond.methodLink RL 41 yX7_sight, Cond.instanceMethod yX7_sight, Cond.selects RX7 yX7_sight yX7_sight, Cond.code yX7_sight cX7_sight 1 (some .long), Cond.methodLink RX7 117 yX2_putRightByStars, Cond.instanceMethod yX2_putRightByStars, Cond.selects RX2 yX2_putRightByStars yX2_putRightByStars, Cond.code yX2_putRightByStars cX2_putRightByStars 3 (some .long), Cond.fieldLink RX2 23 "TownClocks$Master" "sightings" "I", Cond.methodLink RL 45 yX8_sight, Cond.instanceMethod yX8_sight, Cond.selects RX8 yX8_sight yX8_sight, Cond.code yX8_sight cX8_sight 3 (some .long), Cond.fieldLink RX8 149 "TownClocksModel" "sightedAt" "I", Cond.fieldLink RX8 152 "TownClocksModel" "sightings" "I", Cond.methodLink RL 46 yX7_now, Cond.instanceMethod yX7_now, Cond.selects RX7 yX7_now yX7_now]
def wsL_law_r16 : List Cond := [Cond.code yX7_now cX7_now 2 (some .long), Cond.fieldLink RX7 121 "TownClocks$Master" "off" "J", Cond.constantLong RX7 125 (-5), Cond.fieldLink RX7 127 "TownClocks$Master" "minutesSinceSighting" "J", Cond.constantLong RX7 130 (5), Cond.fieldLink RX7 132 "TownClocks$Master" "sightings" "I", Cond.constantLong RX7 135 (-1000001), Cond.methodLink RL 50 yX8_now, Cond.instanceMethod yX8_now, Cond.selects RX8 yX8_now yX8_now, Cond.code yX8_now cX8_now 4 (some .long), Cond.constantLong RX8 155 (-1000001), Cond.methodLink RL 51 yX7_look, Cond.instanceMethod yX7_look, Cond.selects RX7 yX7_look yX7_look, Cond.code yX7_look cX7_look 3 (some .int), Cond.fieldLink RX7 144 "TownClocks$Dial" "late" "I", Cond.methodLink RX7 137 yX7_dialAt, Cond.instanceMethod yX7_dialAt, Cond.selects RX7 yX7_dialAt yX7_dialAt, Cond.code yX7_dialAt cX7_dialAt 2 (some (.object "TownClocks$Dial")), Cond.methodLink RX7 141 yX0_becomeKnown, Cond.instanceMethod yX0_becomeKnown, Cond.selects RX0 yX0_becomeKnown yX0_becomeKnown]
def wsL_law_r17 : List Cond := [Cond.code yX0_becomeKnown cX0_becomeKnown 1 none, Cond.fieldLink RX0 53 "TownClocks$Dial" "knownLeast" "I", Cond.methodLink RL 54 yX8_look, Cond.instanceMethod yX8_look, Cond.selects RX8 yX8_look yX8_look, Cond.code yX8_look cX8_look 2 (some .int), Cond.methodLink RX8 157 yX8_isDial, Cond.instanceMethod yX8_isDial, Cond.selects RX8 yX8_isDial yX8_isDial, Cond.code yX8_isDial cX8_isDial 2 (some .boolean), Cond.methodLink RL 55 yX7_state, Cond.instanceMethod yX7_state, Cond.selects RX7 yX7_state yX7_state, Cond.code yX7_state cX7_state 4 (some .int), Cond.fieldLink RX7 147 "TownClocks$Dial" "knownLeast" "I", Cond.fieldLink RX7 150 "TownClocks$Dial" "puffsSinceKnown" "I", Cond.fieldLink RX7 153 "TownClocks$Dial" "missedRunning" "I", Cond.fieldLink RX7 156 "TownClocks$Dial" "pipe" "LTownClocks$Pipe;", Cond.fieldLink RX7 160 "TownClocks$Pipe" "number" "I", Cond.fieldLink RX7 163 "TownClocks$Dial" "need" "I", Cond.methodLink RL 58 yX8_state, Cond.instanceMethod yX8_state, Cond.selects RX8 yX8_state yX8_state, Cond.code yX8_state cX8_state 3 (some .int)]
def wsL_law_r18 : List Cond := [Cond.methodLink RL 59 yX7_put, Cond.instanceMethod yX7_put, Cond.selects RX7 yX7_put yX7_put, Cond.code yX7_put cX7_put 4 (some .int), Cond.methodLink RX7 166 yX0_putOn, Cond.instanceMethod yX0_putOn, Cond.selects RX0 yX0_putOn yX0_putOn, Cond.code yX0_putOn cX0_putOn 2 none, Cond.methodLink RL 62 yX8_put, Cond.instanceMethod yX8_put, Cond.selects RX8 yX8_put yX8_put, Cond.code yX8_put cX8_put 3 (some .int), Cond.constantLong RX8 160 (-60), Cond.methodLink RL 63 yX7_right, Cond.instanceMethod yX7_right, Cond.selects RX7 yX7_right yX7_right, Cond.code yX7_right cX7_right 4 (some .int), Cond.methodLink RX7 170 yX0_putRight, Cond.instanceMethod yX0_putRight, Cond.selects RX0 yX0_putRight yX0_putRight, Cond.code yX0_putRight cX0_putRight 1 none, Cond.methodLink RX0 56 yX0_becomeKnown, Cond.methodLink RL 66 yX8_right, Cond.instanceMethod yX8_right]
def wsL_law_r19 : List Cond := [Cond.selects RX8 yX8_right yX8_right, Cond.code yX8_right cX8_right 3 (some .int), Cond.methodLink RX8 162 yX8_makeRight, Cond.instanceMethod yX8_makeRight, Cond.selects RX8 yX8_makeRight yX8_makeRight, Cond.code yX8_makeRight cX8_makeRight 2 none, Cond.methodLink RL 67 yX7_round, Cond.instanceMethod yX7_round, Cond.selects RX7 yX7_round yX7_round, Cond.code yX7_round cX7_round 4 (some .int), Cond.methodLink RX7 173 yX7_mostWrongDial, Cond.instanceMethod yX7_mostWrongDial, Cond.selects RX7 yX7_mostWrongDial yX7_mostWrongDial, Cond.code yX7_mostWrongDial cX7_mostWrongDial 5 (some (.object "TownClocks$Dial")), Cond.methodLink RX7 255 Lib.Math.abs.name, Cond.static Lib.Math.abs.name, Cond.code Lib.Math.abs.name Lib.Math.abs.code 1 (some .int), Cond.methodLink RL 70 yX8_round, Cond.instanceMethod yX8_round, Cond.selects RX8 yX8_round yX8_round, Cond.code yX8_round cX8_round 6 (some .int), Cond.constantLong RX8 166 (10), Cond.methodLink RX8 168 yX8_size, Cond.static yX8_size]
def wsL_law_r20 : List Cond := [Cond.code yX8_size cX8_size 1 (some .int), Cond.methodLink RL 71 yX7_ahead, Cond.instanceMethod yX7_ahead, Cond.selects RX7 yX7_ahead yX7_ahead, Cond.code yX7_ahead cX7_ahead 4 (some .int), Cond.constant RX7 184 (-1000004), Cond.methodLink RX7 177 yX0_toldKind, Cond.instanceMethod yX0_toldKind, Cond.selects RX0 yX0_toldKind yX0_toldKind, Cond.code yX0_toldKind cX0_toldKind 1 (some .int), Cond.methodLink RX7 180 yX7_isOfKind, Cond.static yX7_isOfKind, Cond.code yX7_isOfKind cX7_isOfKind 2 (some .boolean), Cond.methodLink RL 74 yX8_ahead, Cond.instanceMethod yX8_ahead, Cond.selects RX8 yX8_ahead yX8_ahead, Cond.code yX8_ahead cX8_ahead 3 (some .int), Cond.constant RX8 174 (-1000004), Cond.methodLink RX8 171 yX8_kindOf, Cond.instanceMethod yX8_kindOf, Cond.selects RX8 yX8_kindOf yX8_kindOf, Cond.code yX8_kindOf cX8_kindOf 2 (some .int), Cond.methodLink RL 75 yX7_mark, Cond.instanceMethod yX7_mark]
def wsL_law_r21 : List Cond := [Cond.selects RX7 yX7_mark yX7_mark, Cond.code yX7_mark cX7_mark 6 (some .int), Cond.fieldLink RX7 185 "TownClocks$Dial" "marked" "Z", Cond.methodLink RL 78 yX8_mark, Cond.instanceMethod yX8_mark, Cond.selects RX8 yX8_mark yX8_mark, Cond.code yX8_mark cX8_mark 5 (some .int), Cond.methodLink RL 79 yX7_explains, Cond.instanceMethod yX7_explains, Cond.selects RX7 yX7_explains yX7_explains, Cond.code yX7_explains cX7_explains 3 (some .int), Cond.fieldLink RX7 193 "TownClocks$Explanations" "found" "I", Cond.fieldLink RX7 196 "TownClocks$Explanations" "pipe" "[I", Cond.fieldLink RX7 199 "TownClocks$Explanations" "leastLeak" "[I", Cond.methodLink RX7 189 yX1_find, Cond.instanceMethod yX1_find, Cond.selects RX1 yX1_find yX1_find, Cond.code yX1_find cX1_find 5 none, Cond.fieldLink RX1 21 "TownClocks$Explanations" "found" "I", Cond.constant RX1 35 (-1000000), Cond.methodLink RX1 25 yJx4a65c_size_8abf5, Cond.methodLink RX1 31 yX1_leastLeakAt, Cond.static yX1_leastLeakAt, Cond.code yX1_leastLeakAt cX1_leastLeakAt 8 (some .int)]
def wsL_law_r22 : List Cond := [Cond.classLink RX1 40 "TownClocks$Dial", Cond.fieldLink RX1 42 "TownClocks$Dial" "pipe" "LTownClocks$Pipe;", Cond.fieldLink RX1 51 "TownClocks$Dial" "need" "I", Cond.fieldLink RX1 58 "TownClocks$Dial" "marked" "Z", Cond.methodLink RX1 62 Lib.Math.max.name, Cond.methodLink RX1 68 Lib.Math.min.name, Cond.methodLink RX1 36 yJx4a65c_get_915e3, Cond.methodLink RX1 45 yX3_airBehindLeaks, Cond.methodLink RX1 54 yX3_isFedThrough, Cond.instanceMethod yX3_isFedThrough, Cond.selects RX3 yX3_isFedThrough yX3_isFedThrough, Cond.code yX3_isFedThrough cX3_isFedThrough 2 (some .boolean), Cond.methodLink RL 82 yX8_explains, Cond.instanceMethod yX8_explains, Cond.selects RX8 yX8_explains yX8_explains, Cond.code yX8_explains cX8_explains 3 (some .int), Cond.fieldLink RX8 179 "TownClocksModel" "found" "I", Cond.methodLink RX8 186 yX8_findAll, Cond.instanceMethod yX8_findAll, Cond.selects RX8 yX8_findAll yX8_findAll, Cond.code yX8_findAll cX8_findAll 3 none, Cond.methodLink RX8 175 yX8_findAirBy, Cond.instanceMethod yX8_findAirBy, Cond.selects RX8 yX8_findAirBy yX8_findAirBy]
def wsL_law_r23 : List Cond := [Cond.code yX8_findAirBy cX8_findAirBy 5 none, Cond.methodLink RX8 182 yX8_isExplained, Cond.instanceMethod yX8_isExplained, Cond.selects RX8 yX8_isExplained yX8_isExplained, Cond.code yX8_isExplained cX8_isExplained 5 (some .boolean), Cond.methodLink RL 83 yX7_next, Cond.instanceMethod yX7_next, Cond.selects RX7 yX7_next yX7_next, Cond.code yX7_next cX7_next 5 (some .int), Cond.methodLink RX7 202 yX1_unlikePairs, Cond.instanceMethod yX1_unlikePairs, Cond.selects RX1 yX1_unlikePairs yX1_unlikePairs, Cond.code yX1_unlikePairs cX1_unlikePairs 5 (some .int), Cond.methodLink RX1 71 yJ7_fill_53178, Cond.static yJ7_fill_53178, Cond.code yJ7_fill_53178 cJ7_fill_53178 4 none, Cond.methodLink RL 86 yX8_next, Cond.instanceMethod yX8_next, Cond.selects RX8 yX8_next yX8_next, Cond.code yX8_next cX8_next 7 (some .int), Cond.methodLink RL 89 yX7_feed, Cond.instanceMethod yX7_feed, Cond.selects RX7 yX7_feed yX7_feed, Cond.code yX7_feed cX7_feed 4 (some .int)]
def wsL_law_r24 : List Cond := [Cond.fieldLink RX7 206 "TownClocks$Tape" "length" "I", Cond.methodLink RX7 209 yX5_append, Cond.instanceMethod yX5_append, Cond.selects RX5 yX5_append yX5_append, Cond.code yX5_append cX5_append 5 none, Cond.fieldLink RX5 15 "TownClocks$Tape" "length" "I", Cond.methodLink RL 93 yX8_feed, Cond.instanceMethod yX8_feed, Cond.selects RX8 yX8_feed yX8_feed, Cond.code yX8_feed cX8_feed 5 (some .int), Cond.constantLong RX8 189 (8), Cond.fieldLink RX8 191 "TownClocksModel" "taped" "I", Cond.constantLong RX8 194 (255), Cond.methodLink RL 94 yX7_contracts, Cond.instanceMethod yX7_contracts, Cond.selects RX7 yX7_contracts yX7_contracts, Cond.code yX7_contracts cX7_contracts 2 (some .int), Cond.constant RX7 217 (-1000100), Cond.fieldLink RX7 218 "TownClocks$Reading" "faultPlace" "I", Cond.fieldLink RX7 225 "TownClocks$Reading" "contractsTold" "I", Cond.methodLink RX7 213 yX4_readTape, Cond.instanceMethod yX4_readTape, Cond.selects RX4 yX4_readTape yX4_readTape, Cond.code yX4_readTape cX4_readTape 2 (some .boolean)]
def wsL_law_r25 : List Cond := [Cond.fieldLink RX4 31 "TownClocks$Reading" "contractsTold" "I", Cond.fieldLink RX4 43 "TownClocks$Tape" "sort" "I", Cond.methodLink RX4 25 yJ7_fill_53178, Cond.methodLink RX4 35 yX5_rewind, Cond.instanceMethod yX5_rewind, Cond.selects RX5 yX5_rewind yX5_rewind, Cond.code yX5_rewind cX5_rewind 1 none, Cond.fieldLink RX5 19 "TownClocks$Tape" "behind" "I", Cond.methodLink RX4 40 yX5_readToken, Cond.instanceMethod yX5_readToken, Cond.selects RX5 yX5_readToken yX5_readToken, Cond.code yX5_readToken cX5_readToken 1 none, Cond.fieldLink RX5 22 "TownClocks$Tape" "first" "I", Cond.fieldLink RX5 29 "TownClocks$Tape" "sort" "I", Cond.methodLink RX5 25 yX5_isBlank, Cond.static yX5_isBlank, Cond.code yX5_isBlank cX5_isBlank 1 (some .boolean), Cond.methodLink RX5 32 yX5_isLetter, Cond.static yX5_isLetter, Cond.code yX5_isLetter cX5_isLetter 1 (some .boolean), Cond.methodLink RX5 35 yX5_endOfLetters, Cond.instanceMethod yX5_endOfLetters, Cond.selects RX5 yX5_endOfLetters yX5_endOfLetters, Cond.code yX5_endOfLetters cX5_endOfLetters 2 (some .int)]
def wsL_law_r26 : List Cond := [Cond.methodLink RX5 39 yX5_isFigure, Cond.static yX5_isFigure, Cond.code yX5_isFigure cX5_isFigure 1 (some .boolean), Cond.methodLink RX5 42 yX5_endOfFigures, Cond.instanceMethod yX5_endOfFigures, Cond.selects RX5 yX5_endOfFigures yX5_endOfFigures, Cond.code yX5_endOfFigures cX5_endOfFigures 2 (some .int), Cond.methodLink RX4 46 yX4_readContract, Cond.instanceMethod yX4_readContract, Cond.selects RX4 yX4_readContract yX4_readContract, Cond.code yX4_readContract cX4_readContract 6 (some .boolean), Cond.methodLink RX4 52 yX5_isName, Cond.instanceMethod yX5_isName, Cond.selects RX5 yX5_isName yX5_isName, Cond.code yX5_isName cX5_isName 3 (some .boolean), Cond.methodLink RX5 45 yJ0_length_8abf5, Cond.instanceMethod yJ0_length_8abf5, Cond.selects RJ0 yJ0_length_8abf5 yJ0_length_8abf5, Cond.initialized RJ0, Cond.code yJ0_length_8abf5 cJ0_length_8abf5 1 (some .int), Cond.fieldLink RJ0 9 "java/lang/String" "value" "[B", Cond.methodLink RJ0 335 yJ0_coder_7d493, Cond.instanceMethod yJ0_coder_7d493, Cond.selects RJ0 yJ0_coder_7d493 yJ0_coder_7d493]
def wsL_law_r27 : List Cond := [Cond.code yJ0_coder_7d493 cJ0_coder_7d493 1 (some .byte), Cond.fieldLink RJ0 38 "java/lang/String" "COMPACT_STRINGS" "Z", Cond.fieldLink RJ0 15 "java/lang/String" "coder" "B", Cond.methodLink RX5 49 yJ0_charAt_5068e, Cond.instanceMethod yJ0_charAt_5068e, Cond.selects RJ0 yJ0_charAt_5068e yJ0_charAt_5068e, Cond.code yJ0_charAt_5068e cJ0_charAt_5068e 2 (some .char), Cond.methodLink RJ0 492 yJ0_isLatin1_aae02, Cond.instanceMethod yJ0_isLatin1_aae02, Cond.selects RJ0 yJ0_isLatin1_aae02 yJ0_isLatin1_aae02, Cond.code yJ0_isLatin1_aae02 cJ0_isLatin1_aae02 1 (some .boolean), Cond.methodLink RJ0 495 yJ1_charAt_3b067, Cond.static yJ1_charAt_3b067, Cond.initialized RJ1, Cond.code yJ1_charAt_3b067 cJ1_charAt_3b067 2 (some .char), Cond.methodLink RJ1 9 yJ0_checkIndex_df160, Cond.static yJ0_checkIndex_df160, Cond.code yJ0_checkIndex_df160 cJ0_checkIndex_df160 2 none, Cond.fieldLink RJ0 1053 "jdk/internal/util/Preconditions" "SIOOBE_FORMATTER" "Ljava/util/function/BiFunction;", Cond.methodLink RJ0 1059 yJ3_checkIndex_8e157, Cond.methodLink RJ0 498 yJ2_charAt_3b067, Cond.static yJ2_charAt_3b067, Cond.initialized RJ2, Cond.code yJ2_charAt_3b067 cJ2_charAt_3b067 2 (some .char)]
def wsL_law_r28 : List Cond := [Cond.methodLink RJ2 67 yJ2_checkIndex_2214a, Cond.static yJ2_checkIndex_2214a, Cond.code yJ2_checkIndex_2214a cJ2_checkIndex_2214a 2 none, Cond.methodLink RJ2 48 yJ2_length_9d52b, Cond.static yJ2_length_9d52b, Cond.code yJ2_length_9d52b cJ2_length_9d52b 1 (some .int), Cond.methodLink RJ2 414 yJ0_checkIndex_df160, Cond.methodLink RJ2 71 yJ2_getChar_3b067, Cond.static yJ2_getChar_3b067, Cond.code yJ2_getChar_3b067 cJ2_getChar_3b067 2 (some .char), Cond.fieldLink RJ2 44 "java/lang/StringUTF16" "$assertionsDisabled" "Z", Cond.fieldLink RJ2 59 "java/lang/StringUTF16" "HI_BYTE_SHIFT" "I", Cond.fieldLink RJ2 63 "java/lang/StringUTF16" "LO_BYTE_SHIFT" "I", Cond.methodLink RX4 56 yX4_refuse, Cond.instanceMethod yX4_refuse, Cond.selects RX4 yX4_refuse yX4_refuse, Cond.code yX4_refuse cX4_refuse 2 (some .boolean), Cond.fieldLink RX4 83 "TownClocks$Reading" "latestFault" "I", Cond.fieldLink RX4 86 "TownClocks$Tape" "first" "I", Cond.fieldLink RX4 89 "TownClocks$Reading" "faultPlace" "I", Cond.methodLink RX4 59 yX4_readNumber, Cond.instanceMethod yX4_readNumber, Cond.selects RX4 yX4_readNumber yX4_readNumber, Cond.code yX4_readNumber cX4_readNumber 1 (some .boolean)]
def wsL_law_r29 : List Cond := [Cond.methodLink RX4 63 yX5_numberValue, Cond.instanceMethod yX5_numberValue, Cond.selects RX5 yX5_numberValue yX5_numberValue, Cond.code yX5_numberValue cX5_numberValue 3 (some .int), Cond.methodLink RX4 67 yX4_namedTerms, Cond.instanceMethod yX4_namedTerms, Cond.selects RX4 yX4_namedTerms yX4_namedTerms, Cond.code yX4_namedTerms cX4_namedTerms 1 (some .int), Cond.methodLink RX4 70 yX4_readSign, Cond.instanceMethod yX4_readSign, Cond.selects RX4 yX4_readSign yX4_readSign, Cond.code yX4_readSign cX4_readSign 2 (some .boolean), Cond.methodLink RX4 80 yX5_isSign, Cond.instanceMethod yX5_isSign, Cond.selects RX5 yX5_isSign yX5_isSign, Cond.code yX5_isSign cX5_isSign 2 (some .boolean), Cond.methodLink RX7 221 yX4_putInForce, Cond.instanceMethod yX4_putInForce, Cond.selects RX4 yX4_putInForce yX4_putInForce, Cond.code yX4_putInForce cX4_putInForce 3 none, Cond.classLink RX4 101 "TownClocks$Dial", Cond.methodLink RX4 92 yJx4a65c_size_8abf5, Cond.methodLink RX4 97 yJx4a65c_get_915e3, Cond.methodLink RX4 103 yX0_begin]
def wsL_law_r30 : List Cond := [Cond.instanceMethod yX0_begin, Cond.selects RX0 yX0_begin yX0_begin, Cond.code yX0_begin cX0_begin 4 none, Cond.methodLink RL 97 yX8_contracts, Cond.instanceMethod yX8_contracts, Cond.selects RX8 yX8_contracts yX8_contracts, Cond.code yX8_contracts cX8_contracts 3 (some .int), Cond.fieldLink RX8 196 "TownClocksModel" "size" "I", Cond.fieldLink RX8 198 "TownClocksModel" "at" "I", Cond.fieldLink RX8 219 "TownClocksModel" "fault" "I", Cond.fieldLink RX8 254 "TownClocksModel" "told" "I", Cond.fieldLink RX8 207 "TownClocksModel" "sort" "I", Cond.fieldLink RX8 260 "TownClocksModel" "latest" "I", Cond.constant RX8 263 (-1000100), Cond.fieldLink RX8 222 "TownClocksModel" "faultAt" "I", Cond.methodLink RX8 228 yX8_step, Cond.instanceMethod yX8_step, Cond.selects RX8 yX8_step yX8_step, Cond.code yX8_step cX8_step 2 none, Cond.fieldLink RX8 204 "TownClocksModel" "place" "I", Cond.fieldLink RX8 216 "TownClocksModel" "end" "I", Cond.methodLink RX8 201 yX8_byteAt, Cond.instanceMethod yX8_byteAt, Cond.selects RX8 yX8_byteAt yX8_byteAt]
def wsL_law_r31 : List Cond := [Cond.code yX8_byteAt cX8_byteAt 2 (some .int), Cond.methodLink RX8 210 yX8_isLetter, Cond.static yX8_isLetter, Cond.code yX8_isLetter cX8_isLetter 1 (some .boolean), Cond.methodLink RX8 213 yX8_isFigure, Cond.static yX8_isFigure, Cond.code yX8_isFigure cX8_isFigure 1 (some .boolean), Cond.methodLink RX8 257 yX8_readOne, Cond.instanceMethod yX8_readOne, Cond.selects RX8 yX8_readOne yX8_readOne, Cond.code yX8_readOne cX8_readOne 7 none, Cond.constantLong RX8 235 (1684627820), Cond.constantLong RX8 245 (1718378868), Cond.constantLong RX8 247 (491394656372), Cond.constantLong RX8 249 (1818588019), Cond.methodLink RX8 231 yX8_name, Cond.instanceMethod yX8_name, Cond.selects RX8 yX8_name yX8_name, Cond.code yX8_name cX8_name 4 (some .long), Cond.methodLink RX8 237 yX8_take, Cond.instanceMethod yX8_take, Cond.selects RX8 yX8_take yX8_take, Cond.code yX8_take cX8_take 2 none, Cond.methodLink RX8 225 yX8_bad]
def wsL_law_r32 : List Cond := [Cond.instanceMethod yX8_bad, Cond.selects RX8 yX8_bad yX8_bad, Cond.code yX8_bad cX8_bad 2 none, Cond.methodLink RX8 241 yX8_number, Cond.instanceMethod yX8_number, Cond.selects RX8 yX8_number yX8_number, Cond.code yX8_number cX8_number 3 (some .int), Cond.methodLink RX8 251 yX8_is, Cond.instanceMethod yX8_is, Cond.selects RX8 yX8_is yX8_is, Cond.code yX8_is cX8_is 2 (some .boolean), Cond.methodLink RL 98 yX7_fault, Cond.instanceMethod yX7_fault, Cond.selects RX7 yX7_fault yX7_fault, Cond.code yX7_fault cX7_fault 1 (some .int), Cond.fieldLink RX7 228 "TownClocks$Reading" "latestFault" "I", Cond.methodLink RL 101 yX8_fault, Cond.instanceMethod yX8_fault, Cond.selects RX8 yX8_fault yX8_fault, Cond.code yX8_fault cX8_fault 1 (some .int), Cond.methodLink RL 102 yX7_owes, Cond.instanceMethod yX7_owes, Cond.selects RX7 yX7_owes yX7_owes, Cond.code yX7_owes cX7_owes 3 (some .int)]
def wsL_law_r33 : List Cond := [Cond.fieldLink RX7 231 "TownClocks$Dial" "owed" "I", Cond.methodLink RL 105 yX8_owes, Cond.instanceMethod yX8_owes, Cond.selects RX8 yX8_owes yX8_owes, Cond.code yX8_owes cX8_owes 2 (some .int), Cond.methodLink RL 106 yX7_kind, Cond.instanceMethod yX7_kind, Cond.selects RX7 yX7_kind yX7_kind, Cond.code yX7_kind cX7_kind 3 (some .int), Cond.methodLink RL 109 yX8_kind, Cond.instanceMethod yX8_kind, Cond.selects RX8 yX8_kind yX8_kind, Cond.code yX8_kind cX8_kind 2 (some .int), Cond.methodLink RL 110 yX7_as, Cond.instanceMethod yX7_as, Cond.selects RX7 yX7_as yX7_as, Cond.code yX7_as cX7_as 4 (some .int), Cond.methodLink RL 113 yX8_as, Cond.instanceMethod yX8_as, Cond.selects RX8 yX8_as yX8_as, Cond.code yX8_as cX8_as 4 (some .int), Cond.constantLong RX8 264 (3), Cond.methodLink RL 114 yX7_ask, Cond.instanceMethod yX7_ask]
def wsL_law_r34 : List Cond := [Cond.selects RX7 yX7_ask yX7_ask, Cond.code yX7_ask cX7_ask 4 (some .int), Cond.fieldLink RX7 234 "TownClocks$Trace" "length" "I", Cond.methodLink RX7 235 yX7_weightOf, Cond.instanceMethod yX7_weightOf, Cond.selects RX7 yX7_weightOf yX7_weightOf, Cond.code yX7_weightOf cX7_weightOf 2 (some .int), Cond.methodLink RX7 263 yX7_body11, Cond.instanceMethod yX7_body11, Cond.selects RX7 yX7_body11 yX7_body11, Cond.code yX7_body11 cX7_body11 2 (some .int), Cond.methodLink RX7 275 yX6_begin, Cond.instanceMethod yX6_begin, Cond.selects RX6 yX6_begin yX6_begin, Cond.code yX6_begin cX6_begin 2 none, Cond.fieldLink RX6 13 "TownClocks$Trace" "length" "I", Cond.methodLink RX7 272 yX7_body10, Cond.instanceMethod yX7_body10, Cond.selects RX7 yX7_body10 yX7_body10, Cond.code yX7_body10 cX7_body10 2 (some .int), Cond.methodLink RX7 266 yX7_body12, Cond.instanceMethod yX7_body12, Cond.selects RX7 yX7_body12 yX7_body12, Cond.code yX7_body12 cX7_body12 2 (some .int)]
def wsL_law_r35 : List Cond := [Cond.methodLink RX7 269 yX7_body13, Cond.instanceMethod yX7_body13, Cond.selects RX7 yX7_body13 yX7_body13, Cond.code yX7_body13 cX7_body13 2 (some .int), Cond.methodLink RX7 239 yX7_markOf, Cond.instanceMethod yX7_markOf, Cond.selects RX7 yX7_markOf yX7_markOf, Cond.code yX7_markOf cX7_markOf 2 (some .int), Cond.methodLink RX7 278 yX7_body21, Cond.instanceMethod yX7_body21, Cond.selects RX7 yX7_body21 yX7_body21, Cond.code yX7_body21 cX7_body21 2 (some .int), Cond.methodLink RX7 284 yX7_body20, Cond.instanceMethod yX7_body20, Cond.selects RX7 yX7_body20 yX7_body20, Cond.code yX7_body20 cX7_body20 2 (some .int), Cond.methodLink RX7 281 yX7_body22, Cond.instanceMethod yX7_body22, Cond.selects RX7 yX7_body22 yX7_body22, Cond.code yX7_body22 cX7_body22 2 (some .int), Cond.methodLink RL 117 yX8_ask, Cond.instanceMethod yX8_ask, Cond.selects RX8 yX8_ask yX8_ask, Cond.code yX8_ask cX8_ask 3 (some .int)]
def wsL_law_r36 : List Cond := [Cond.fieldLink RX8 266 "TownClocksModel" "traced" "I", Cond.methodLink RX8 272 yX8_weight, Cond.instanceMethod yX8_weight, Cond.selects RX8 yX8_weight yX8_weight, Cond.code yX8_weight cX8_weight 5 (some .int), Cond.methodLink RX8 269 yX8_began, Cond.instanceMethod yX8_began, Cond.selects RX8 yX8_began yX8_began, Cond.code yX8_began cX8_began 2 none, Cond.methodLink RX8 275 yX8_marked, Cond.instanceMethod yX8_marked, Cond.selects RX8 yX8_marked yX8_marked, Cond.code yX8_marked cX8_marked 4 (some .int), Cond.methodLink RL 118 yX7_trace, Cond.instanceMethod yX7_trace, Cond.selects RX7 yX7_trace yX7_trace, Cond.code yX7_trace cX7_trace 2 (some .int), Cond.fieldLink RX7 242 "TownClocks$Trace" "numbers" "[I", Cond.methodLink RL 121 yX8_trace, Cond.instanceMethod yX8_trace, Cond.selects RX8 yX8_trace yX8_trace, Cond.code yX8_trace cX8_trace 2 (some .int), Cond.methodLink RL 122 yX7_count, Cond.instanceMethod yX7_count]
def wsL_law_r37 : List Cond := [Cond.selects RX7 yX7_count yX7_count, Cond.code yX7_count cX7_count 2 (some .int), Cond.methodLink RX7 245 yX7_countOfKind, Cond.instanceMethod yX7_countOfKind, Cond.selects RX7 yX7_countOfKind yX7_countOfKind, Cond.code yX7_countOfKind cX7_countOfKind 4 (some .int), Cond.methodLink RX7 249 yX7_countContracts, Cond.instanceMethod yX7_countContracts, Cond.selects RX7 yX7_countContracts yX7_countContracts, Cond.code yX7_countContracts cX7_countContracts 3 (some .int), Cond.fieldLink RX7 260 "TownClocks$Dial" "terms" "I", Cond.methodLink RX7 252 yX7_allLates, Cond.instanceMethod yX7_allLates, Cond.selects RX7 yX7_allLates yX7_allLates, Cond.code yX7_allLates cX7_allLates 3 (some .int), Cond.methodLink RL 125 yX8_count, Cond.instanceMethod yX8_count, Cond.selects RX8 yX8_count yX8_count, Cond.code yX8_count cX8_count 6 (some .int), Cond.constantLong RX8 278 (7)]
def wsL_law : List Cond := (wsL_law_r1 ++ (wsL_law_r2 ++ (wsL_law_r3 ++ (wsL_law_r4 ++ (wsL_law_r5 ++ (wsL_law_r6 ++ (wsL_law_r7 ++ (wsL_law_r8 ++ (wsL_law_r9 ++ (wsL_law_r10 ++ (wsL_law_r11 ++ (wsL_law_r12 ++ (wsL_law_r13 ++ (wsL_law_r14 ++ (wsL_law_r15 ++ (wsL_law_r16 ++ (wsL_law_r17 ++ (wsL_law_r18 ++ (wsL_law_r19 ++ (wsL_law_r20 ++ (wsL_law_r21 ++ (wsL_law_r22 ++ (wsL_law_r23 ++ (wsL_law_r24 ++ (wsL_law_r25 ++ (wsL_law_r26 ++ (wsL_law_r27 ++ (wsL_law_r28 ++ (wsL_law_r29 ++ (wsL_law_r30 ++ (wsL_law_r31 ++ (wsL_law_r32 ++ (wsL_law_r33 ++ (wsL_law_r34 ++ (wsL_law_r35 ++ (wsL_law_r36 ++ wsL_law_r37)))))))))))))))))))))))))))))))))))) ++ wsX70 ++ wsX80 ++ wsJx4a65c0 ++ wsX20 ++ wsX10 ++ wsX50 ++ wsX40 ++ wsX60 ++ wsX30 ++ wsX00 ++ ([] : List Cond)
theorem inlX0 : ∀ w ∈ wsX00, w ∈ wsL_law := fun _ h => List.mem_append_left _ (List.mem_append_right _ h)
theorem inlX1 : ∀ w ∈ wsX10, w ∈ wsL_law := fun _ h => List.mem_append_left _ (List.mem_append_left _ (List.mem_append_left _ (List.mem_append_left _ (List.mem_append_left _ (List.mem_append_left _ (List.mem_append_right _ h))))))
theorem inlX2 : ∀ w ∈ wsX20, w ∈ wsL_law := fun _ h => List.mem_append_left _ (List.mem_append_left _ (List.mem_append_left _ (List.mem_append_left _ (List.mem_append_left _ (List.mem_append_left _ (List.mem_append_left _ (List.mem_append_right _ h)))))))
theorem inlX3 : ∀ w ∈ wsX30, w ∈ wsL_law := fun _ h => List.mem_append_left _ (List.mem_append_left _ (List.mem_append_right _ h))
theorem inlX4 : ∀ w ∈ wsX40, w ∈ wsL_law := fun _ h => List.mem_append_left _ (List.mem_append_left _ (List.mem_append_left _ (List.mem_append_left _ (List.mem_append_right _ h))))
theorem inlX5 : ∀ w ∈ wsX50, w ∈ wsL_law := fun _ h => List.mem_append_left _ (List.mem_append_left _ (List.mem_append_left _ (List.mem_append_left _ (List.mem_append_left _ (List.mem_append_right _ h)))))
theorem inlX6 : ∀ w ∈ wsX60, w ∈ wsL_law := fun _ h => List.mem_append_left _ (List.mem_append_left _ (List.mem_append_left _ (List.mem_append_right _ h)))
theorem inlX7 : ∀ w ∈ wsX70, w ∈ wsL_law := fun _ h => List.mem_append_left _ (List.mem_append_left _ (List.mem_append_left _ (List.mem_append_left _ (List.mem_append_left _ (List.mem_append_left _ (List.mem_append_left _ (List.mem_append_left _ (List.mem_append_left _ (List.mem_append_left _ (List.mem_append_right _ h))))))))))
theorem inlX8 : ∀ w ∈ wsX80, w ∈ wsL_law := fun _ h => List.mem_append_left _ (List.mem_append_left _ (List.mem_append_left _ (List.mem_append_left _ (List.mem_append_left _ (List.mem_append_left _ (List.mem_append_left _ (List.mem_append_left _ (List.mem_append_left _ (List.mem_append_right _ h)))))))))
theorem inlJx4a65c : ∀ w ∈ wsJx4a65c0, w ∈ wsL_law := fun _ h => List.mem_append_left _ (List.mem_append_left _ (List.mem_append_left _ (List.mem_append_left _ (List.mem_append_left _ (List.mem_append_left _ (List.mem_append_left _ (List.mem_append_left _ (List.mem_append_right _ h))))))))
abbrev vwCl : List vw_C := [(RJx4a65c, TJx4a65c, 3), (RX0, TX0, 12), (RX1, TX1, 4), (RX2, TX2, 5), (RX3, TX3, 6), (RX4, TX4, 7), (RX5, TX5, 5), (RX6, TX6, 2), (RX7, TX7, 8), (RX8, TX8, 48)]
end
section
theorem dX0_init_0 : decode cX0_init 0 = .ok (.aload_n 0, 1) := by decide +kernel
theorem dX0_init_1 : decode cX0_init 1 = .ok (.invokespecial 3, 3) := by decide +kernel
theorem dX0_init_4 : decode cX0_init 4 = .ok (.aload_n 0, 1) := by decide +kernel
theorem dX0_init_5 : decode cX0_init 5 = .ok (.aload_n 1, 1) := by decide +kernel
theorem dX0_init_6 : decode cX0_init 6 = .ok (.putfield 9, 3) := by decide +kernel
theorem dX0_init_9 : decode cX0_init 9 = .ok (.aload_n 0, 1) := by decide +kernel
theorem dX0_init_10 : decode cX0_init 10 = .ok (.iload_n 2, 1) := by decide +kernel
theorem dX0_init_11 : decode cX0_init 11 = .ok (.putfield 15, 3) := by decide +kernel
theorem dX0_init_14 : decode cX0_init 14 = .ok (.aload_n 0, 1) := by decide +kernel
theorem dX0_init_15 : decode cX0_init 15 = .ok (.iload_n 3, 1) := by decide +kernel
theorem dX0_init_16 : decode cX0_init 16 = .ok (.putfield 19, 3) := by decide +kernel
theorem dX0_init_19 : decode cX0_init 19 = .ok (.return_, 1) := by decide +kernel
set_option maxRecDepth 20000 in
theorem ggX0_takePuff_X3_air : GoodIn wsX0_takePuff wsX3_air := goodIn_r _ [12, 13, 14, 15, 16, 17, 11, 18, 19, 20, 21, 22, 23, 43, 44, 45, 46, 47, 48] (by decide +kernel) (by decide +kernel)
set_option maxRecDepth 20000 in
theorem gX0_takePuff_X3_air : GoodIn wsX0_takePuff (wsV RX0 22 RX3 yX3_air wsX3_air) := goodIn_app (goodIn_of _ (by decide +kernel)) ggX0_takePuff_X3_air
set_option maxRecDepth 20000 in
theorem ggX0_takePuff_X0_isPaidFor : GoodIn wsX0_takePuff wsX0_isPaidFor := goodIn_r _ [28, 29, 5, 30, 31, 32, 33, 34, 35, 36, 37, 38, 39, 40, 41, 42] (by decide +kernel) (by decide +kernel)
set_option maxRecDepth 20000 in
theorem gX0_takePuff_X0_isPaidFor : GoodIn wsX0_takePuff (wsV RX0 37 RX0 yX0_isPaidFor wsX0_isPaidFor) := goodIn_app (goodIn_of _ (by decide +kernel)) ggX0_takePuff_X0_isPaidFor
theorem dX0_takePuff_0 : decode cX0_takePuff 0 = .ok (.aload_n 0, 1) := by decide +kernel
theorem dX0_takePuff_1 : decode cX0_takePuff 1 = .ok (.getfield 9, 3) := by decide +kernel
theorem dX0_takePuff_4 : decode cX0_takePuff 4 = .ok (.invokevirtual 22, 3) := by decide +kernel
theorem dX0_takePuff_7 : decode cX0_takePuff 7 = .ok (.aload_n 0, 1) := by decide +kernel
theorem dX0_takePuff_8 : decode cX0_takePuff 8 = .ok (.getfield 15, 3) := by decide +kernel
theorem dX0_takePuff_11 : decode cX0_takePuff 11 = .ok (.if_icmp .lt 7, 3) := by decide +kernel
theorem dX0_takePuff_14 : decode cX0_takePuff 14 = .ok (.iconst 1, 1) := by decide +kernel
theorem dX0_takePuff_15 : decode cX0_takePuff 15 = .ok (.goto 4, 3) := by decide +kernel
theorem dX0_takePuff_18 : decode cX0_takePuff 18 = .ok (.iconst 0, 1) := by decide +kernel
theorem dX0_takePuff_19 : decode cX0_takePuff 19 = .ok (.istore_n 1, 1) := by decide +kernel
theorem dX0_takePuff_20 : decode cX0_takePuff 20 = .ok (.aload_n 0, 1) := by decide +kernel
theorem dX0_takePuff_21 : decode cX0_takePuff 21 = .ok (.dup, 1) := by decide +kernel
theorem dX0_takePuff_22 : decode cX0_takePuff 22 = .ok (.getfield 28, 3) := by decide +kernel
theorem dX0_takePuff_25 : decode cX0_takePuff 25 = .ok (.iconst 1, 1) := by decide +kernel
theorem dX0_takePuff_26 : decode cX0_takePuff 26 = .ok (.iadd, 1) := by decide +kernel
theorem dX0_takePuff_27 : decode cX0_takePuff 27 = .ok (.putfield 28, 3) := by decide +kernel
theorem dX0_takePuff_30 : decode cX0_takePuff 30 = .ok (.iload_n 1, 1) := by decide +kernel
theorem dX0_takePuff_31 : decode cX0_takePuff 31 = .ok (.ifCond .eq 11, 3) := by decide +kernel
theorem dX0_takePuff_34 : decode cX0_takePuff 34 = .ok (.aload_n 0, 1) := by decide +kernel
theorem dX0_takePuff_35 : decode cX0_takePuff 35 = .ok (.iconst 0, 1) := by decide +kernel
theorem dX0_takePuff_36 : decode cX0_takePuff 36 = .ok (.putfield 31, 3) := by decide +kernel
theorem dX0_takePuff_39 : decode cX0_takePuff 39 = .ok (.goto 23, 3) := by decide +kernel
theorem dX0_takePuff_42 : decode cX0_takePuff 42 = .ok (.aload_n 0, 1) := by decide +kernel
theorem dX0_takePuff_43 : decode cX0_takePuff 43 = .ok (.dup, 1) := by decide +kernel
theorem dX0_takePuff_44 : decode cX0_takePuff 44 = .ok (.getfield 34, 3) := by decide +kernel
theorem dX0_takePuff_47 : decode cX0_takePuff 47 = .ok (.iconst 1, 1) := by decide +kernel
theorem dX0_takePuff_48 : decode cX0_takePuff 48 = .ok (.iadd, 1) := by decide +kernel
theorem dX0_takePuff_49 : decode cX0_takePuff 49 = .ok (.putfield 34, 3) := by decide +kernel
theorem dX0_takePuff_52 : decode cX0_takePuff 52 = .ok (.aload_n 0, 1) := by decide +kernel
theorem dX0_takePuff_53 : decode cX0_takePuff 53 = .ok (.dup, 1) := by decide +kernel
theorem dX0_takePuff_54 : decode cX0_takePuff 54 = .ok (.getfield 31, 3) := by decide +kernel
theorem dX0_takePuff_57 : decode cX0_takePuff 57 = .ok (.iconst 1, 1) := by decide +kernel
theorem dX0_takePuff_58 : decode cX0_takePuff 58 = .ok (.iadd, 1) := by decide +kernel
theorem dX0_takePuff_59 : decode cX0_takePuff 59 = .ok (.putfield 31, 3) := by decide +kernel
theorem dX0_takePuff_62 : decode cX0_takePuff 62 = .ok (.aload_n 0, 1) := by decide +kernel
theorem dX0_takePuff_63 : decode cX0_takePuff 63 = .ok (.iload_n 1, 1) := by decide +kernel
theorem dX0_takePuff_64 : decode cX0_takePuff 64 = .ok (.invokevirtual 37, 3) := by decide +kernel
theorem dX0_takePuff_67 : decode cX0_takePuff 67 = .ok (.ifCond .eq 16, 3) := by decide +kernel
theorem dX0_takePuff_70 : decode cX0_takePuff 70 = .ok (.aload_n 0, 1) := by decide +kernel
theorem dX0_takePuff_71 : decode cX0_takePuff 71 = .ok (.dup, 1) := by decide +kernel
theorem dX0_takePuff_72 : decode cX0_takePuff 72 = .ok (.getfield 41, 3) := by decide +kernel
theorem dX0_takePuff_75 : decode cX0_takePuff 75 = .ok (.aload_n 0, 1) := by decide +kernel
theorem dX0_takePuff_76 : decode cX0_takePuff 76 = .ok (.getfield 44, 3) := by decide +kernel
theorem dX0_takePuff_79 : decode cX0_takePuff 79 = .ok (.iadd, 1) := by decide +kernel
theorem dX0_takePuff_80 : decode cX0_takePuff 80 = .ok (.putfield 41, 3) := by decide +kernel
theorem dX0_takePuff_83 : decode cX0_takePuff 83 = .ok (.iload_n 1, 1) := by decide +kernel
theorem dX0_takePuff_84 : decode cX0_takePuff 84 = .ok (.ireturn, 1) := by decide +kernel
theorem dX0_isPaidFor_0 : decode cX0_isPaidFor 0 = .ok (.aload_n 0, 1) := by decide +kernel
theorem dX0_isPaidFor_1 : decode cX0_isPaidFor 1 = .ok (.getfield 47, 3) := by decide +kernel
theorem dX0_isPaidFor_4 : decode cX0_isPaidFor 4 = .ok (.tableswitch 49 1 3 #[28, 30, 32], 28) := by decide +kernel
theorem dX0_isPaidFor_32 : decode cX0_isPaidFor 32 = .ok (.iconst 1, 1) := by decide +kernel
theorem dX0_isPaidFor_33 : decode cX0_isPaidFor 33 = .ok (.ireturn, 1) := by decide +kernel
theorem dX0_isPaidFor_34 : decode cX0_isPaidFor 34 = .ok (.iload_n 1, 1) := by decide +kernel
theorem dX0_isPaidFor_35 : decode cX0_isPaidFor 35 = .ok (.ireturn, 1) := by decide +kernel
theorem dX0_isPaidFor_36 : decode cX0_isPaidFor 36 = .ok (.aload_n 0, 1) := by decide +kernel
theorem dX0_isPaidFor_37 : decode cX0_isPaidFor 37 = .ok (.getfield 34, 3) := by decide +kernel
theorem dX0_isPaidFor_40 : decode cX0_isPaidFor 40 = .ok (.aload_n 0, 1) := by decide +kernel
theorem dX0_isPaidFor_41 : decode cX0_isPaidFor 41 = .ok (.getfield 50, 3) := by decide +kernel
theorem dX0_isPaidFor_44 : decode cX0_isPaidFor 44 = .ok (.if_icmp .ge 7, 3) := by decide +kernel
theorem dX0_isPaidFor_47 : decode cX0_isPaidFor 47 = .ok (.iconst 1, 1) := by decide +kernel
theorem dX0_isPaidFor_48 : decode cX0_isPaidFor 48 = .ok (.goto 4, 3) := by decide +kernel
theorem dX0_isPaidFor_51 : decode cX0_isPaidFor 51 = .ok (.iconst 0, 1) := by decide +kernel
theorem dX0_isPaidFor_52 : decode cX0_isPaidFor 52 = .ok (.ireturn, 1) := by decide +kernel
theorem dX0_isPaidFor_53 : decode cX0_isPaidFor 53 = .ok (.iconst 0, 1) := by decide +kernel
theorem dX0_isPaidFor_54 : decode cX0_isPaidFor 54 = .ok (.ireturn, 1) := by decide +kernel
theorem dX0_becomeKnown_0 : decode cX0_becomeKnown 0 = .ok (.aload_n 0, 1) := by decide +kernel
theorem dX0_becomeKnown_1 : decode cX0_becomeKnown 1 = .ok (.aload_n 0, 1) := by decide +kernel
theorem dX0_becomeKnown_2 : decode cX0_becomeKnown 2 = .ok (.getfield 34, 3) := by decide +kernel
theorem dX0_becomeKnown_5 : decode cX0_becomeKnown 5 = .ok (.putfield 53, 3) := by decide +kernel
theorem dX0_becomeKnown_8 : decode cX0_becomeKnown 8 = .ok (.aload_n 0, 1) := by decide +kernel
theorem dX0_becomeKnown_9 : decode cX0_becomeKnown 9 = .ok (.iconst 0, 1) := by decide +kernel
theorem dX0_becomeKnown_10 : decode cX0_becomeKnown 10 = .ok (.putfield 28, 3) := by decide +kernel
theorem dX0_becomeKnown_13 : decode cX0_becomeKnown 13 = .ok (.return_, 1) := by decide +kernel
theorem dX0_putOn_0 : decode cX0_putOn 0 = .ok (.aload_n 0, 1) := by decide +kernel
theorem dX0_putOn_1 : decode cX0_putOn 1 = .ok (.dup, 1) := by decide +kernel
theorem dX0_putOn_2 : decode cX0_putOn 2 = .ok (.getfield 34, 3) := by decide +kernel
theorem dX0_putOn_5 : decode cX0_putOn 5 = .ok (.iload_n 1, 1) := by decide +kernel
theorem dX0_putOn_6 : decode cX0_putOn 6 = .ok (.isub, 1) := by decide +kernel
theorem dX0_putOn_7 : decode cX0_putOn 7 = .ok (.putfield 34, 3) := by decide +kernel
theorem dX0_putOn_10 : decode cX0_putOn 10 = .ok (.aload_n 0, 1) := by decide +kernel
theorem dX0_putOn_11 : decode cX0_putOn 11 = .ok (.dup, 1) := by decide +kernel
theorem dX0_putOn_12 : decode cX0_putOn 12 = .ok (.getfield 53, 3) := by decide +kernel
theorem dX0_putOn_15 : decode cX0_putOn 15 = .ok (.iload_n 1, 1) := by decide +kernel
theorem dX0_putOn_16 : decode cX0_putOn 16 = .ok (.isub, 1) := by decide +kernel
theorem dX0_putOn_17 : decode cX0_putOn 17 = .ok (.putfield 53, 3) := by decide +kernel
theorem dX0_putOn_20 : decode cX0_putOn 20 = .ok (.return_, 1) := by decide +kernel
set_option maxRecDepth 20000 in
theorem ggX0_putRight_X0_becomeKnown : GoodIn wsX0_putRight wsX0_becomeKnown := goodIn_r _ [7, 1, 8, 9, 10, 11, 12, 13, 14, 15, 16, 17, 18, 19, 20, 21] (by decide +kernel) (by decide +kernel)
set_option maxRecDepth 20000 in
theorem gX0_putRight_X0_becomeKnown : GoodIn wsX0_putRight (wsV RX0 56 RX0 yX0_becomeKnown wsX0_becomeKnown) := goodIn_app (goodIn_of _ (by decide +kernel)) ggX0_putRight_X0_becomeKnown
theorem dX0_putRight_0 : decode cX0_putRight 0 = .ok (.aload_n 0, 1) := by decide +kernel
theorem dX0_putRight_1 : decode cX0_putRight 1 = .ok (.iconst 0, 1) := by decide +kernel
theorem dX0_putRight_2 : decode cX0_putRight 2 = .ok (.putfield 34, 3) := by decide +kernel
theorem dX0_putRight_5 : decode cX0_putRight 5 = .ok (.aload_n 0, 1) := by decide +kernel
theorem dX0_putRight_6 : decode cX0_putRight 6 = .ok (.iconst 0, 1) := by decide +kernel
theorem dX0_putRight_7 : decode cX0_putRight 7 = .ok (.putfield 31, 3) := by decide +kernel
theorem dX0_putRight_10 : decode cX0_putRight 10 = .ok (.aload_n 0, 1) := by decide +kernel
theorem dX0_putRight_11 : decode cX0_putRight 11 = .ok (.invokevirtual 56, 3) := by decide +kernel
theorem dX0_putRight_14 : decode cX0_putRight 14 = .ok (.return_, 1) := by decide +kernel
theorem dX0_toldKind_0 : decode cX0_toldKind 0 = .ok (.aload_n 0, 1) := by decide +kernel
theorem dX0_toldKind_1 : decode cX0_toldKind 1 = .ok (.getfield 31, 3) := by decide +kernel
theorem dX0_toldKind_4 : decode cX0_toldKind 4 = .ok (.bipush 10, 2) := by decide +kernel
theorem dX0_toldKind_6 : decode cX0_toldKind 6 = .ok (.if_icmp .lt 7, 3) := by decide +kernel
theorem dX0_toldKind_9 : decode cX0_toldKind 9 = .ok (.iconst 3, 1) := by decide +kernel
theorem dX0_toldKind_10 : decode cX0_toldKind 10 = .ok (.goto 7, 3) := by decide +kernel
theorem dX0_toldKind_13 : decode cX0_toldKind 13 = .ok (.aload_n 0, 1) := by decide +kernel
theorem dX0_toldKind_14 : decode cX0_toldKind 14 = .ok (.getfield 19, 3) := by decide +kernel
theorem dX0_toldKind_17 : decode cX0_toldKind 17 = .ok (.ireturn, 1) := by decide +kernel
theorem dX0_begin_0 : decode cX0_begin 0 = .ok (.aload_n 0, 1) := by decide +kernel
theorem dX0_begin_1 : decode cX0_begin 1 = .ok (.iload_n 1, 1) := by decide +kernel
theorem dX0_begin_2 : decode cX0_begin 2 = .ok (.putfield 47, 3) := by decide +kernel
theorem dX0_begin_5 : decode cX0_begin 5 = .ok (.aload_n 0, 1) := by decide +kernel
theorem dX0_begin_6 : decode cX0_begin 6 = .ok (.iload_n 2, 1) := by decide +kernel
theorem dX0_begin_7 : decode cX0_begin 7 = .ok (.putfield 50, 3) := by decide +kernel
theorem dX0_begin_10 : decode cX0_begin 10 = .ok (.aload_n 0, 1) := by decide +kernel
theorem dX0_begin_11 : decode cX0_begin 11 = .ok (.iload_n 3, 1) := by decide +kernel
theorem dX0_begin_12 : decode cX0_begin 12 = .ok (.putfield 44, 3) := by decide +kernel
theorem dX0_begin_15 : decode cX0_begin 15 = .ok (.aload_n 0, 1) := by decide +kernel
theorem dX0_begin_16 : decode cX0_begin 16 = .ok (.iconst 0, 1) := by decide +kernel
theorem dX0_begin_17 : decode cX0_begin 17 = .ok (.putfield 41, 3) := by decide +kernel
theorem dX0_begin_20 : decode cX0_begin 20 = .ok (.return_, 1) := by decide +kernel
theorem dX1_init_0 : decode cX1_init 0 = .ok (.aload_n 0, 1) := by decide +kernel
theorem dX1_init_1 : decode cX1_init 1 = .ok (.invokespecial 3, 3) := by decide +kernel
theorem dX1_init_4 : decode cX1_init 4 = .ok (.aload_n 0, 1) := by decide +kernel
theorem dX1_init_5 : decode cX1_init 5 = .ok (.bipush 30, 2) := by decide +kernel
theorem dX1_init_7 : decode cX1_init 7 = .ok (.newarray .int, 2) := by decide +kernel
theorem dX1_init_9 : decode cX1_init 9 = .ok (.putfield 9, 3) := by decide +kernel
theorem dX1_init_12 : decode cX1_init 12 = .ok (.aload_n 0, 1) := by decide +kernel
theorem dX1_init_13 : decode cX1_init 13 = .ok (.bipush 30, 2) := by decide +kernel
theorem dX1_init_15 : decode cX1_init 15 = .ok (.newarray .int, 2) := by decide +kernel
theorem dX1_init_17 : decode cX1_init 17 = .ok (.putfield 15, 3) := by decide +kernel
theorem dX1_init_20 : decode cX1_init 20 = .ok (.aload_n 0, 1) := by decide +kernel
theorem dX1_init_21 : decode cX1_init 21 = .ok (.bipush 101, 2) := by decide +kernel
theorem dX1_init_23 : decode cX1_init 23 = .ok (.newarray .int, 2) := by decide +kernel
theorem dX1_init_25 : decode cX1_init 25 = .ok (.putfield 18, 3) := by decide +kernel
theorem dX1_init_28 : decode cX1_init 28 = .ok (.return_, 1) := by decide +kernel
set_option maxRecDepth 20000 in
theorem ggX1_find_Jx4a65c_size_8abf5 : GoodIn wsX1_find wsJx4a65c_size_8abf5 := goodIn_r _ [9, 10, 59, 60, 61] (by decide +kernel) (by decide +kernel)
set_option maxRecDepth 20000 in
theorem gX1_find_Jx4a65c_size_8abf5 : GoodIn wsX1_find (wsV RX1 25 RJx4a65c yJx4a65c_size_8abf5 wsJx4a65c_size_8abf5) := goodIn_app (goodIn_of _ (by decide +kernel)) ggX1_find_Jx4a65c_size_8abf5
set_option maxRecDepth 20000 in
theorem ggX1_find_X1_leastLeakAt : GoodIn wsX1_find wsX1_leastLeakAt := goodIn_r _ [14, 15, 16, 17, 18, 2, 19, 20, 21, 22, 23, 24, 25, 5, 6, 7, 8, 9, 10, 26, 27, 28, 29, 30, 31, 32, 33, 34, 35, 36, 37, 38, 39, 40, 41, 42, 43, 44, 45, 46, 47, 48, 49, 50, 51, 52, 53, 54, 62, 63, 64, 65, 66, 67, 68, 69, 70, 71, 72, 73, 59, 60, 61, 74, 75, 76, 77, 78, 79] (by decide +kernel) (by decide +kernel)
set_option maxRecDepth 20000 in
theorem gX1_find_X1_leastLeakAt : GoodIn wsX1_find (va_wsS RX1 31 yX1_leastLeakAt wsX1_leastLeakAt) := goodIn_app (goodIn_of _ (by decide +kernel)) ggX1_find_X1_leastLeakAt
theorem dX1_find_0 : decode cX1_find 0 = .ok (.aload_n 0, 1) := by decide +kernel
theorem dX1_find_1 : decode cX1_find 1 = .ok (.iconst 0, 1) := by decide +kernel
theorem dX1_find_2 : decode cX1_find 2 = .ok (.putfield 21, 3) := by decide +kernel
theorem dX1_find_5 : decode cX1_find 5 = .ok (.iconst 0, 1) := by decide +kernel
theorem dX1_find_6 : decode cX1_find 6 = .ok (.istore_n 3, 1) := by decide +kernel
theorem dX1_find_7 : decode cX1_find 7 = .ok (.iload_n 3, 1) := by decide +kernel
theorem dX1_find_8 : decode cX1_find 8 = .ok (.aload_n 1, 1) := by decide +kernel
theorem dX1_find_9 : decode cX1_find 9 = .ok (.invokevirtual 25, 3) := by decide +kernel
theorem dX1_find_12 : decode cX1_find 12 = .ok (.if_icmp .ge 60, 3) := by decide +kernel
theorem dX1_find_15 : decode cX1_find 15 = .ok (.iload_n 3, 1) := by decide +kernel
theorem dX1_find_16 : decode cX1_find 16 = .ok (.bipush 30, 2) := by decide +kernel
theorem dX1_find_18 : decode cX1_find 18 = .ok (.if_icmp .ge 54, 3) := by decide +kernel
theorem dX1_find_21 : decode cX1_find 21 = .ok (.iload_n 3, 1) := by decide +kernel
theorem dX1_find_22 : decode cX1_find 22 = .ok (.aload_n 2, 1) := by decide +kernel
theorem dX1_find_23 : decode cX1_find 23 = .ok (.invokestatic 31, 3) := by decide +kernel
theorem dX1_find_26 : decode cX1_find 26 = .ok (.istore 4, 2) := by decide +kernel
theorem dX1_find_28 : decode cX1_find 28 = .ok (.iload 4, 2) := by decide +kernel
theorem dX1_find_30 : decode cX1_find 30 = .ok (.ldc 35, 2) := by decide +kernel
theorem dX1_find_32 : decode cX1_find 32 = .ok (.if_icmp .eq 34, 3) := by decide +kernel
theorem dX1_find_35 : decode cX1_find 35 = .ok (.aload_n 0, 1) := by decide +kernel
theorem dX1_find_36 : decode cX1_find 36 = .ok (.getfield 9, 3) := by decide +kernel
theorem dX1_find_39 : decode cX1_find 39 = .ok (.aload_n 0, 1) := by decide +kernel
theorem dX1_find_40 : decode cX1_find 40 = .ok (.getfield 21, 3) := by decide +kernel
theorem dX1_find_43 : decode cX1_find 43 = .ok (.iload_n 3, 1) := by decide +kernel
theorem dX1_find_44 : decode cX1_find 44 = .ok (.iastore, 1) := by decide +kernel
theorem dX1_find_45 : decode cX1_find 45 = .ok (.aload_n 0, 1) := by decide +kernel
theorem dX1_find_46 : decode cX1_find 46 = .ok (.getfield 15, 3) := by decide +kernel
theorem dX1_find_49 : decode cX1_find 49 = .ok (.aload_n 0, 1) := by decide +kernel
theorem dX1_find_50 : decode cX1_find 50 = .ok (.getfield 21, 3) := by decide +kernel
theorem dX1_find_53 : decode cX1_find 53 = .ok (.iload 4, 2) := by decide +kernel
theorem dX1_find_55 : decode cX1_find 55 = .ok (.iastore, 1) := by decide +kernel
theorem dX1_find_56 : decode cX1_find 56 = .ok (.aload_n 0, 1) := by decide +kernel
theorem dX1_find_57 : decode cX1_find 57 = .ok (.dup, 1) := by decide +kernel
theorem dX1_find_58 : decode cX1_find 58 = .ok (.getfield 21, 3) := by decide +kernel
theorem dX1_find_61 : decode cX1_find 61 = .ok (.iconst 1, 1) := by decide +kernel
theorem dX1_find_62 : decode cX1_find 62 = .ok (.iadd, 1) := by decide +kernel
theorem dX1_find_63 : decode cX1_find 63 = .ok (.putfield 21, 3) := by decide +kernel
theorem dX1_find_66 : decode cX1_find 66 = .ok (.iinc 3 1, 3) := by decide +kernel
theorem dX1_find_69 : decode cX1_find 69 = .ok (.goto (-62), 3) := by decide +kernel
theorem dX1_find_72 : decode cX1_find 72 = .ok (.return_, 1) := by decide +kernel
set_option maxRecDepth 20000 in
theorem ggX1_leastLeakAt_Jx4a65c_size_8abf5 : GoodIn wsX1_leastLeakAt wsJx4a65c_size_8abf5 := goodIn_r _ [17, 18, 60, 61, 62] (by decide +kernel) (by decide +kernel)
set_option maxRecDepth 20000 in
theorem gX1_leastLeakAt_Jx4a65c_size_8abf5 : GoodIn wsX1_leastLeakAt (wsV RX1 25 RJx4a65c yJx4a65c_size_8abf5 wsJx4a65c_size_8abf5) := goodIn_app (goodIn_of _ (by decide +kernel)) ggX1_leastLeakAt_Jx4a65c_size_8abf5
set_option maxRecDepth 20000 in
theorem ggX1_leastLeakAt_Jx4a65c_get_915e3 : GoodIn wsX1_leastLeakAt wsJx4a65c_get_915e3 := goodIn_r _ [22, 18, 23, 24, 25, 26, 27, 28, 29, 30, 31, 32, 33, 16, 34, 35, 60, 61, 62] (by decide +kernel) (by decide +kernel)
set_option maxRecDepth 20000 in
theorem gX1_leastLeakAt_Jx4a65c_get_915e3 : GoodIn wsX1_leastLeakAt (wsV RX1 36 RJx4a65c yJx4a65c_get_915e3 wsJx4a65c_get_915e3) := goodIn_app (goodIn_of _ (by decide +kernel)) ggX1_leastLeakAt_Jx4a65c_get_915e3
set_option maxRecDepth 20000 in
theorem ggX1_leastLeakAt_X3_airBehindLeaks : GoodIn wsX1_leastLeakAt wsX3_airBehindLeaks := goodIn_r _ [40, 41, 42, 7, 8, 9, 63, 64, 65, 66, 67, 68] (by decide +kernel) (by decide +kernel)
set_option maxRecDepth 20000 in
theorem gX1_leastLeakAt_X3_airBehindLeaks : GoodIn wsX1_leastLeakAt (wsV RX1 45 RX3 yX3_airBehindLeaks wsX3_airBehindLeaks) := goodIn_app (goodIn_of _ (by decide +kernel)) ggX1_leastLeakAt_X3_airBehindLeaks
set_option maxRecDepth 20000 in
theorem ggX1_leastLeakAt_X3_isFedThrough : GoodIn wsX1_leastLeakAt wsX3_isFedThrough := goodIn_r _ [46, 47, 63, 64, 65, 66, 67, 68] (by decide +kernel) (by decide +kernel)
set_option maxRecDepth 20000 in
theorem gX1_leastLeakAt_X3_isFedThrough : GoodIn wsX1_leastLeakAt (wsV RX1 54 RX3 yX3_isFedThrough wsX3_isFedThrough) := goodIn_app (goodIn_of _ (by decide +kernel)) ggX1_leastLeakAt_X3_isFedThrough
theorem dX1_leastLeakAt_0 : decode cX1_leastLeakAt 0 = .ok (.iconst 1, 1) := by decide +kernel
theorem dX1_leastLeakAt_1 : decode cX1_leastLeakAt 1 = .ok (.istore_n 2, 1) := by decide +kernel
theorem dX1_leastLeakAt_2 : decode cX1_leastLeakAt 2 = .ok (.bipush 60, 2) := by decide +kernel
theorem dX1_leastLeakAt_4 : decode cX1_leastLeakAt 4 = .ok (.istore_n 3, 1) := by decide +kernel
theorem dX1_leastLeakAt_5 : decode cX1_leastLeakAt 5 = .ok (.iconst 0, 1) := by decide +kernel
theorem dX1_leastLeakAt_6 : decode cX1_leastLeakAt 6 = .ok (.istore 4, 2) := by decide +kernel
theorem dX1_leastLeakAt_8 : decode cX1_leastLeakAt 8 = .ok (.iload 4, 2) := by decide +kernel
theorem dX1_leastLeakAt_10 : decode cX1_leastLeakAt 10 = .ok (.aload_n 1, 1) := by decide +kernel
theorem dX1_leastLeakAt_11 : decode cX1_leastLeakAt 11 = .ok (.invokevirtual 25, 3) := by decide +kernel
theorem dX1_leastLeakAt_14 : decode cX1_leastLeakAt 14 = .ok (.if_icmp .ge 104, 3) := by decide +kernel
theorem dX1_leastLeakAt_17 : decode cX1_leastLeakAt 17 = .ok (.aload_n 1, 1) := by decide +kernel
theorem dX1_leastLeakAt_18 : decode cX1_leastLeakAt 18 = .ok (.iload 4, 2) := by decide +kernel
theorem dX1_leastLeakAt_20 : decode cX1_leastLeakAt 20 = .ok (.invokevirtual 36, 3) := by decide +kernel
theorem dX1_leastLeakAt_23 : decode cX1_leastLeakAt 23 = .ok (.checkcast 40, 3) := by decide +kernel
theorem dX1_leastLeakAt_26 : decode cX1_leastLeakAt 26 = .ok (.astore 5, 2) := by decide +kernel
theorem dX1_leastLeakAt_28 : decode cX1_leastLeakAt 28 = .ok (.aload 5, 2) := by decide +kernel
theorem dX1_leastLeakAt_30 : decode cX1_leastLeakAt 30 = .ok (.getfield 42, 3) := by decide +kernel
theorem dX1_leastLeakAt_33 : decode cX1_leastLeakAt 33 = .ok (.iconst 0, 1) := by decide +kernel
theorem dX1_leastLeakAt_34 : decode cX1_leastLeakAt 34 = .ok (.invokevirtual 45, 3) := by decide +kernel
theorem dX1_leastLeakAt_37 : decode cX1_leastLeakAt 37 = .ok (.aload 5, 2) := by decide +kernel
theorem dX1_leastLeakAt_39 : decode cX1_leastLeakAt 39 = .ok (.getfield 51, 3) := by decide +kernel
theorem dX1_leastLeakAt_42 : decode cX1_leastLeakAt 42 = .ok (.isub, 1) := by decide +kernel
theorem dX1_leastLeakAt_43 : decode cX1_leastLeakAt 43 = .ok (.istore 6, 2) := by decide +kernel
theorem dX1_leastLeakAt_45 : decode cX1_leastLeakAt 45 = .ok (.iload 6, 2) := by decide +kernel
theorem dX1_leastLeakAt_47 : decode cX1_leastLeakAt 47 = .ok (.ifCond .ge 6, 3) := by decide +kernel
theorem dX1_leastLeakAt_50 : decode cX1_leastLeakAt 50 = .ok (.goto 62, 3) := by decide +kernel
theorem dX1_leastLeakAt_53 : decode cX1_leastLeakAt 53 = .ok (.aload 5, 2) := by decide +kernel
theorem dX1_leastLeakAt_55 : decode cX1_leastLeakAt 55 = .ok (.getfield 42, 3) := by decide +kernel
theorem dX1_leastLeakAt_58 : decode cX1_leastLeakAt 58 = .ok (.iload_n 0, 1) := by decide +kernel
theorem dX1_leastLeakAt_59 : decode cX1_leastLeakAt 59 = .ok (.invokevirtual 54, 3) := by decide +kernel
theorem dX1_leastLeakAt_62 : decode cX1_leastLeakAt 62 = .ok (.istore 7, 2) := by decide +kernel
theorem dX1_leastLeakAt_64 : decode cX1_leastLeakAt 64 = .ok (.aload 5, 2) := by decide +kernel
theorem dX1_leastLeakAt_66 : decode cX1_leastLeakAt 66 = .ok (.getfield 58, 3) := by decide +kernel
theorem dX1_leastLeakAt_69 : decode cX1_leastLeakAt 69 = .ok (.ifCond .eq 11, 3) := by decide +kernel
theorem dX1_leastLeakAt_72 : decode cX1_leastLeakAt 72 = .ok (.iload 7, 2) := by decide +kernel
theorem dX1_leastLeakAt_74 : decode cX1_leastLeakAt 74 = .ok (.ifCond .ne 6, 3) := by decide +kernel
theorem dX1_leastLeakAt_77 : decode cX1_leastLeakAt 77 = .ok (.ldc 35, 2) := by decide +kernel
theorem dX1_leastLeakAt_79 : decode cX1_leastLeakAt 79 = .ok (.ireturn, 1) := by decide +kernel
theorem dX1_leastLeakAt_80 : decode cX1_leastLeakAt 80 = .ok (.aload 5, 2) := by decide +kernel
theorem dX1_leastLeakAt_82 : decode cX1_leastLeakAt 82 = .ok (.getfield 58, 3) := by decide +kernel
theorem dX1_leastLeakAt_85 : decode cX1_leastLeakAt 85 = .ok (.ifCond .eq 15, 3) := by decide +kernel
theorem dX1_leastLeakAt_88 : decode cX1_leastLeakAt 88 = .ok (.iload_n 2, 1) := by decide +kernel
theorem dX1_leastLeakAt_89 : decode cX1_leastLeakAt 89 = .ok (.iload 6, 2) := by decide +kernel
theorem dX1_leastLeakAt_91 : decode cX1_leastLeakAt 91 = .ok (.iconst 1, 1) := by decide +kernel
theorem dX1_leastLeakAt_92 : decode cX1_leastLeakAt 92 = .ok (.iadd, 1) := by decide +kernel
theorem dX1_leastLeakAt_93 : decode cX1_leastLeakAt 93 = .ok (.invokestatic 62, 3) := by decide +kernel
theorem dX1_leastLeakAt_96 : decode cX1_leastLeakAt 96 = .ok (.istore_n 2, 1) := by decide +kernel
theorem dX1_leastLeakAt_97 : decode cX1_leastLeakAt 97 = .ok (.goto 15, 3) := by decide +kernel
theorem dX1_leastLeakAt_100 : decode cX1_leastLeakAt 100 = .ok (.iload 7, 2) := by decide +kernel
theorem dX1_leastLeakAt_102 : decode cX1_leastLeakAt 102 = .ok (.ifCond .eq 10, 3) := by decide +kernel
theorem dX1_leastLeakAt_105 : decode cX1_leastLeakAt 105 = .ok (.iload_n 3, 1) := by decide +kernel
theorem dX1_leastLeakAt_106 : decode cX1_leastLeakAt 106 = .ok (.iload 6, 2) := by decide +kernel
theorem dX1_leastLeakAt_108 : decode cX1_leastLeakAt 108 = .ok (.invokestatic 68, 3) := by decide +kernel
theorem dX1_leastLeakAt_111 : decode cX1_leastLeakAt 111 = .ok (.istore_n 3, 1) := by decide +kernel
theorem dX1_leastLeakAt_112 : decode cX1_leastLeakAt 112 = .ok (.iinc 4 1, 3) := by decide +kernel
theorem dX1_leastLeakAt_115 : decode cX1_leastLeakAt 115 = .ok (.goto (-107), 3) := by decide +kernel
theorem dX1_leastLeakAt_118 : decode cX1_leastLeakAt 118 = .ok (.iload_n 2, 1) := by decide +kernel
theorem dX1_leastLeakAt_119 : decode cX1_leastLeakAt 119 = .ok (.iload_n 3, 1) := by decide +kernel
theorem dX1_leastLeakAt_120 : decode cX1_leastLeakAt 120 = .ok (.if_icmp .gt 7, 3) := by decide +kernel
theorem dX1_leastLeakAt_123 : decode cX1_leastLeakAt 123 = .ok (.iload_n 2, 1) := by decide +kernel
theorem dX1_leastLeakAt_124 : decode cX1_leastLeakAt 124 = .ok (.goto 5, 3) := by decide +kernel
theorem dX1_leastLeakAt_127 : decode cX1_leastLeakAt 127 = .ok (.ldc 35, 2) := by decide +kernel
theorem dX1_leastLeakAt_129 : decode cX1_leastLeakAt 129 = .ok (.ireturn, 1) := by decide +kernel
set_option maxRecDepth 20000 in
theorem ggX1_unlikePairs_J7_fill_53178 : GoodIn wsX1_unlikePairs wsJ7_fill_53178 := goodIn_r _ [8] (by decide +kernel) (by decide +kernel)
set_option maxRecDepth 20000 in
theorem gX1_unlikePairs_J7_fill_53178 : GoodIn wsX1_unlikePairs (va_wsS RX1 71 yJ7_fill_53178 wsJ7_fill_53178) := goodIn_app (goodIn_of _ (by decide +kernel)) ggX1_unlikePairs_J7_fill_53178
set_option maxRecDepth 20000 in
theorem ggX1_unlikePairs_X3_isFedThrough : GoodIn wsX1_unlikePairs wsX3_isFedThrough := goodIn_r _ [13, 14, 28, 29, 30, 31, 32, 33] (by decide +kernel) (by decide +kernel)
set_option maxRecDepth 20000 in
theorem gX1_unlikePairs_X3_isFedThrough : GoodIn wsX1_unlikePairs (wsV RX1 54 RX3 yX3_isFedThrough wsX3_isFedThrough) := goodIn_app (goodIn_of _ (by decide +kernel)) ggX1_unlikePairs_X3_isFedThrough
set_option maxRecDepth 20000 in
theorem ggX1_unlikePairs_X3_airBehindLeaks : GoodIn wsX1_unlikePairs wsX3_airBehindLeaks := goodIn_r _ [18, 19, 20, 21, 22, 23, 28, 29, 30, 31, 32, 33] (by decide +kernel) (by decide +kernel)
set_option maxRecDepth 20000 in
theorem gX1_unlikePairs_X3_airBehindLeaks : GoodIn wsX1_unlikePairs (wsV RX1 45 RX3 yX3_airBehindLeaks wsX3_airBehindLeaks) := goodIn_app (goodIn_of _ (by decide +kernel)) ggX1_unlikePairs_X3_airBehindLeaks
theorem dX1_unlikePairs_0 : decode cX1_unlikePairs 0 = .ok (.aload_n 0, 1) := by decide +kernel
theorem dX1_unlikePairs_1 : decode cX1_unlikePairs 1 = .ok (.getfield 18, 3) := by decide +kernel
theorem dX1_unlikePairs_4 : decode cX1_unlikePairs 4 = .ok (.iconst 0, 1) := by decide +kernel
theorem dX1_unlikePairs_5 : decode cX1_unlikePairs 5 = .ok (.invokestatic 71, 3) := by decide +kernel
theorem dX1_unlikePairs_8 : decode cX1_unlikePairs 8 = .ok (.iconst 0, 1) := by decide +kernel
theorem dX1_unlikePairs_9 : decode cX1_unlikePairs 9 = .ok (.istore_n 2, 1) := by decide +kernel
theorem dX1_unlikePairs_10 : decode cX1_unlikePairs 10 = .ok (.iconst 0, 1) := by decide +kernel
theorem dX1_unlikePairs_11 : decode cX1_unlikePairs 11 = .ok (.istore_n 3, 1) := by decide +kernel
theorem dX1_unlikePairs_12 : decode cX1_unlikePairs 12 = .ok (.iload_n 3, 1) := by decide +kernel
theorem dX1_unlikePairs_13 : decode cX1_unlikePairs 13 = .ok (.aload_n 0, 1) := by decide +kernel
theorem dX1_unlikePairs_14 : decode cX1_unlikePairs 14 = .ok (.getfield 21, 3) := by decide +kernel
theorem dX1_unlikePairs_17 : decode cX1_unlikePairs 17 = .ok (.if_icmp .ge 61, 3) := by decide +kernel
theorem dX1_unlikePairs_20 : decode cX1_unlikePairs 20 = .ok (.aload_n 1, 1) := by decide +kernel
theorem dX1_unlikePairs_21 : decode cX1_unlikePairs 21 = .ok (.aload_n 1, 1) := by decide +kernel
theorem dX1_unlikePairs_22 : decode cX1_unlikePairs 22 = .ok (.aload_n 0, 1) := by decide +kernel
theorem dX1_unlikePairs_23 : decode cX1_unlikePairs 23 = .ok (.getfield 9, 3) := by decide +kernel
theorem dX1_unlikePairs_26 : decode cX1_unlikePairs 26 = .ok (.iload_n 3, 1) := by decide +kernel
theorem dX1_unlikePairs_27 : decode cX1_unlikePairs 27 = .ok (.iaload, 1) := by decide +kernel
theorem dX1_unlikePairs_28 : decode cX1_unlikePairs 28 = .ok (.invokevirtual 54, 3) := by decide +kernel
theorem dX1_unlikePairs_31 : decode cX1_unlikePairs 31 = .ok (.ifCond .eq 12, 3) := by decide +kernel
theorem dX1_unlikePairs_34 : decode cX1_unlikePairs 34 = .ok (.aload_n 0, 1) := by decide +kernel
theorem dX1_unlikePairs_35 : decode cX1_unlikePairs 35 = .ok (.getfield 15, 3) := by decide +kernel
theorem dX1_unlikePairs_38 : decode cX1_unlikePairs 38 = .ok (.iload_n 3, 1) := by decide +kernel
theorem dX1_unlikePairs_39 : decode cX1_unlikePairs 39 = .ok (.iaload, 1) := by decide +kernel
theorem dX1_unlikePairs_40 : decode cX1_unlikePairs 40 = .ok (.goto 4, 3) := by decide +kernel
theorem dX1_unlikePairs_43 : decode cX1_unlikePairs 43 = .ok (.iconst 0, 1) := by decide +kernel
theorem dX1_unlikePairs_44 : decode cX1_unlikePairs 44 = .ok (.invokevirtual 45, 3) := by decide +kernel
theorem dX1_unlikePairs_47 : decode cX1_unlikePairs 47 = .ok (.istore 4, 2) := by decide +kernel
theorem dX1_unlikePairs_49 : decode cX1_unlikePairs 49 = .ok (.iload_n 2, 1) := by decide +kernel
theorem dX1_unlikePairs_50 : decode cX1_unlikePairs 50 = .ok (.iload_n 3, 1) := by decide +kernel
theorem dX1_unlikePairs_51 : decode cX1_unlikePairs 51 = .ok (.aload_n 0, 1) := by decide +kernel
theorem dX1_unlikePairs_52 : decode cX1_unlikePairs 52 = .ok (.getfield 18, 3) := by decide +kernel
theorem dX1_unlikePairs_55 : decode cX1_unlikePairs 55 = .ok (.iload 4, 2) := by decide +kernel
theorem dX1_unlikePairs_57 : decode cX1_unlikePairs 57 = .ok (.iaload, 1) := by decide +kernel
theorem dX1_unlikePairs_58 : decode cX1_unlikePairs 58 = .ok (.isub, 1) := by decide +kernel
theorem dX1_unlikePairs_59 : decode cX1_unlikePairs 59 = .ok (.iadd, 1) := by decide +kernel
theorem dX1_unlikePairs_60 : decode cX1_unlikePairs 60 = .ok (.istore_n 2, 1) := by decide +kernel
theorem dX1_unlikePairs_61 : decode cX1_unlikePairs 61 = .ok (.aload_n 0, 1) := by decide +kernel
theorem dX1_unlikePairs_62 : decode cX1_unlikePairs 62 = .ok (.getfield 18, 3) := by decide +kernel
theorem dX1_unlikePairs_65 : decode cX1_unlikePairs 65 = .ok (.iload 4, 2) := by decide +kernel
theorem dX1_unlikePairs_67 : decode cX1_unlikePairs 67 = .ok (.dup2, 1) := by decide +kernel
theorem dX1_unlikePairs_68 : decode cX1_unlikePairs 68 = .ok (.iaload, 1) := by decide +kernel
theorem dX1_unlikePairs_69 : decode cX1_unlikePairs 69 = .ok (.iconst 1, 1) := by decide +kernel
theorem dX1_unlikePairs_70 : decode cX1_unlikePairs 70 = .ok (.iadd, 1) := by decide +kernel
theorem dX1_unlikePairs_71 : decode cX1_unlikePairs 71 = .ok (.iastore, 1) := by decide +kernel
theorem dX1_unlikePairs_72 : decode cX1_unlikePairs 72 = .ok (.iinc 3 1, 3) := by decide +kernel
theorem dX1_unlikePairs_75 : decode cX1_unlikePairs 75 = .ok (.goto (-63), 3) := by decide +kernel
theorem dX1_unlikePairs_78 : decode cX1_unlikePairs 78 = .ok (.iload_n 2, 1) := by decide +kernel
theorem dX1_unlikePairs_79 : decode cX1_unlikePairs 79 = .ok (.ireturn, 1) := by decide +kernel
theorem dX2_init_0 : decode cX2_init 0 = .ok (.aload_n 0, 1) := by decide +kernel
theorem dX2_init_1 : decode cX2_init 1 = .ok (.invokespecial 1, 3) := by decide +kernel
theorem dX2_init_4 : decode cX2_init 4 = .ok (.return_, 1) := by decide +kernel
theorem dX2_tellMinute_0 : decode cX2_tellMinute 0 = .ok (.aload_n 0, 1) := by decide +kernel
theorem dX2_tellMinute_1 : decode cX2_tellMinute 1 = .ok (.dup, 1) := by decide +kernel
theorem dX2_tellMinute_2 : decode cX2_tellMinute 2 = .ok (.getfield 7, 3) := by decide +kernel
theorem dX2_tellMinute_5 : decode cX2_tellMinute 5 = .ok (.iconst 1, 1) := by decide +kernel
theorem dX2_tellMinute_6 : decode cX2_tellMinute 6 = .ok (.iadd, 1) := by decide +kernel
theorem dX2_tellMinute_7 : decode cX2_tellMinute 7 = .ok (.putfield 7, 3) := by decide +kernel
theorem dX2_tellMinute_10 : decode cX2_tellMinute 10 = .ok (.aload_n 0, 1) := by decide +kernel
theorem dX2_tellMinute_11 : decode cX2_tellMinute 11 = .ok (.dup, 1) := by decide +kernel
theorem dX2_tellMinute_12 : decode cX2_tellMinute 12 = .ok (.getfield 13, 3) := by decide +kernel
theorem dX2_tellMinute_15 : decode cX2_tellMinute 15 = .ok (.lconst 1, 1) := by decide +kernel
theorem dX2_tellMinute_16 : decode cX2_tellMinute 16 = .ok (.ladd, 1) := by decide +kernel
theorem dX2_tellMinute_17 : decode cX2_tellMinute 17 = .ok (.putfield 13, 3) := by decide +kernel
theorem dX2_tellMinute_20 : decode cX2_tellMinute 20 = .ok (.aload_n 0, 1) := by decide +kernel
theorem dX2_tellMinute_21 : decode cX2_tellMinute 21 = .ok (.dup, 1) := by decide +kernel
theorem dX2_tellMinute_22 : decode cX2_tellMinute 22 = .ok (.getfield 17, 3) := by decide +kernel
theorem dX2_tellMinute_25 : decode cX2_tellMinute 25 = .ok (.aload_n 0, 1) := by decide +kernel
theorem dX2_tellMinute_26 : decode cX2_tellMinute 26 = .ok (.getfield 20, 3) := by decide +kernel
theorem dX2_tellMinute_29 : decode cX2_tellMinute 29 = .ok (.i2l, 1) := by decide +kernel
theorem dX2_tellMinute_30 : decode cX2_tellMinute 30 = .ok (.ladd, 1) := by decide +kernel
theorem dX2_tellMinute_31 : decode cX2_tellMinute 31 = .ok (.putfield 17, 3) := by decide +kernel
theorem dX2_tellMinute_34 : decode cX2_tellMinute 34 = .ok (.return_, 1) := by decide +kernel
theorem dX2_putRightByStars_0 : decode cX2_putRightByStars 0 = .ok (.aload_n 0, 1) := by decide +kernel
theorem dX2_putRightByStars_1 : decode cX2_putRightByStars 1 = .ok (.getfield 17, 3) := by decide +kernel
theorem dX2_putRightByStars_4 : decode cX2_putRightByStars 4 = .ok (.lstore_n 1, 1) := by decide +kernel
theorem dX2_putRightByStars_5 : decode cX2_putRightByStars 5 = .ok (.aload_n 0, 1) := by decide +kernel
theorem dX2_putRightByStars_6 : decode cX2_putRightByStars 6 = .ok (.lconst 0, 1) := by decide +kernel
theorem dX2_putRightByStars_7 : decode cX2_putRightByStars 7 = .ok (.putfield 17, 3) := by decide +kernel
theorem dX2_putRightByStars_10 : decode cX2_putRightByStars 10 = .ok (.aload_n 0, 1) := by decide +kernel
theorem dX2_putRightByStars_11 : decode cX2_putRightByStars 11 = .ok (.lconst 0, 1) := by decide +kernel
theorem dX2_putRightByStars_12 : decode cX2_putRightByStars 12 = .ok (.putfield 13, 3) := by decide +kernel
theorem dX2_putRightByStars_15 : decode cX2_putRightByStars 15 = .ok (.aload_n 0, 1) := by decide +kernel
theorem dX2_putRightByStars_16 : decode cX2_putRightByStars 16 = .ok (.dup, 1) := by decide +kernel
theorem dX2_putRightByStars_17 : decode cX2_putRightByStars 17 = .ok (.getfield 23, 3) := by decide +kernel
theorem dX2_putRightByStars_20 : decode cX2_putRightByStars 20 = .ok (.iconst 1, 1) := by decide +kernel
theorem dX2_putRightByStars_21 : decode cX2_putRightByStars 21 = .ok (.iadd, 1) := by decide +kernel
theorem dX2_putRightByStars_22 : decode cX2_putRightByStars 22 = .ok (.putfield 23, 3) := by decide +kernel
theorem dX2_putRightByStars_25 : decode cX2_putRightByStars 25 = .ok (.lload_n 1, 1) := by decide +kernel
theorem dX2_putRightByStars_26 : decode cX2_putRightByStars 26 = .ok (.lreturn, 1) := by decide +kernel
theorem dX3_init_0 : decode cX3_init 0 = .ok (.aload_n 0, 1) := by decide +kernel
theorem dX3_init_1 : decode cX3_init 1 = .ok (.invokespecial 3, 3) := by decide +kernel
theorem dX3_init_4 : decode cX3_init 4 = .ok (.aload_n 0, 1) := by decide +kernel
theorem dX3_init_5 : decode cX3_init 5 = .ok (.iload_n 1, 1) := by decide +kernel
theorem dX3_init_6 : decode cX3_init 6 = .ok (.putfield 9, 3) := by decide +kernel
theorem dX3_init_9 : decode cX3_init 9 = .ok (.aload_n 0, 1) := by decide +kernel
theorem dX3_init_10 : decode cX3_init 10 = .ok (.aload_n 2, 1) := by decide +kernel
theorem dX3_init_11 : decode cX3_init 11 = .ok (.putfield 15, 3) := by decide +kernel
theorem dX3_init_14 : decode cX3_init 14 = .ok (.aload_n 0, 1) := by decide +kernel
theorem dX3_init_15 : decode cX3_init 15 = .ok (.iload_n 3, 1) := by decide +kernel
theorem dX3_init_16 : decode cX3_init 16 = .ok (.aload_n 2, 1) := by decide +kernel
theorem dX3_init_17 : decode cX3_init 17 = .ok (.ifnonnull 7, 3) := by decide +kernel
theorem dX3_init_20 : decode cX3_init 20 = .ok (.iconst 0, 1) := by decide +kernel
theorem dX3_init_21 : decode cX3_init 21 = .ok (.goto 7, 3) := by decide +kernel
theorem dX3_init_24 : decode cX3_init 24 = .ok (.aload_n 2, 1) := by decide +kernel
theorem dX3_init_25 : decode cX3_init 25 = .ok (.getfield 19, 3) := by decide +kernel
theorem dX3_init_28 : decode cX3_init 28 = .ok (.iadd, 1) := by decide +kernel
theorem dX3_init_29 : decode cX3_init 29 = .ok (.putfield 19, 3) := by decide +kernel
theorem dX3_init_32 : decode cX3_init 32 = .ok (.aload_n 0, 1) := by decide +kernel
theorem dX3_init_33 : decode cX3_init 33 = .ok (.iload 4, 2) := by decide +kernel
theorem dX3_init_35 : decode cX3_init 35 = .ok (.aload_n 2, 1) := by decide +kernel
theorem dX3_init_36 : decode cX3_init 36 = .ok (.ifnonnull 7, 3) := by decide +kernel
theorem dX3_init_39 : decode cX3_init 39 = .ok (.iconst 0, 1) := by decide +kernel
theorem dX3_init_40 : decode cX3_init 40 = .ok (.goto 7, 3) := by decide +kernel
theorem dX3_init_43 : decode cX3_init 43 = .ok (.aload_n 2, 1) := by decide +kernel
theorem dX3_init_44 : decode cX3_init 44 = .ok (.getfield 22, 3) := by decide +kernel
theorem dX3_init_47 : decode cX3_init 47 = .ok (.iadd, 1) := by decide +kernel
theorem dX3_init_48 : decode cX3_init 48 = .ok (.putfield 22, 3) := by decide +kernel
theorem dX3_init_51 : decode cX3_init 51 = .ok (.aload_n 0, 1) := by decide +kernel
theorem dX3_init_52 : decode cX3_init 52 = .ok (.iconst 1, 1) := by decide +kernel
theorem dX3_init_53 : decode cX3_init 53 = .ok (.iload_n 1, 1) := by decide +kernel
theorem dX3_init_54 : decode cX3_init 54 = .ok (.ishl, 1) := by decide +kernel
theorem dX3_init_55 : decode cX3_init 55 = .ok (.aload_n 2, 1) := by decide +kernel
theorem dX3_init_56 : decode cX3_init 56 = .ok (.ifnonnull 7, 3) := by decide +kernel
theorem dX3_init_59 : decode cX3_init 59 = .ok (.iconst 0, 1) := by decide +kernel
theorem dX3_init_60 : decode cX3_init 60 = .ok (.goto 7, 3) := by decide +kernel
theorem dX3_init_63 : decode cX3_init 63 = .ok (.aload_n 2, 1) := by decide +kernel
theorem dX3_init_64 : decode cX3_init 64 = .ok (.getfield 25, 3) := by decide +kernel
theorem dX3_init_67 : decode cX3_init 67 = .ok (.ior, 1) := by decide +kernel
theorem dX3_init_68 : decode cX3_init 68 = .ok (.putfield 25, 3) := by decide +kernel
theorem dX3_init_71 : decode cX3_init 71 = .ok (.return_, 1) := by decide +kernel
set_option maxRecDepth 20000 in
theorem ggX3_air_X3_airBehindLeaks : GoodIn wsX3_air wsX3_airBehindLeaks := goodIn_r _ [7, 8, 9, 10, 11, 12, 13, 14, 15, 16, 17, 18] (by decide +kernel) (by decide +kernel)
set_option maxRecDepth 20000 in
theorem gX3_air_X3_airBehindLeaks : GoodIn wsX3_air (wsV RX3 31 RX3 yX3_airBehindLeaks wsX3_airBehindLeaks) := goodIn_app (goodIn_of _ (by decide +kernel)) ggX3_air_X3_airBehindLeaks
theorem dX3_air_0 : decode cX3_air 0 = .ok (.iconst 0, 1) := by decide +kernel
theorem dX3_air_1 : decode cX3_air 1 = .ok (.istore_n 1, 1) := by decide +kernel
theorem dX3_air_2 : decode cX3_air 2 = .ok (.aload_n 0, 1) := by decide +kernel
theorem dX3_air_3 : decode cX3_air 3 = .ok (.astore_n 2, 1) := by decide +kernel
theorem dX3_air_4 : decode cX3_air 4 = .ok (.aload_n 2, 1) := by decide +kernel
theorem dX3_air_5 : decode cX3_air 5 = .ok (.ifnull 18, 3) := by decide +kernel
theorem dX3_air_8 : decode cX3_air 8 = .ok (.iload_n 1, 1) := by decide +kernel
theorem dX3_air_9 : decode cX3_air 9 = .ok (.aload_n 2, 1) := by decide +kernel
theorem dX3_air_10 : decode cX3_air 10 = .ok (.getfield 28, 3) := by decide +kernel
theorem dX3_air_13 : decode cX3_air 13 = .ok (.iadd, 1) := by decide +kernel
theorem dX3_air_14 : decode cX3_air 14 = .ok (.istore_n 1, 1) := by decide +kernel
theorem dX3_air_15 : decode cX3_air 15 = .ok (.aload_n 2, 1) := by decide +kernel
theorem dX3_air_16 : decode cX3_air 16 = .ok (.getfield 15, 3) := by decide +kernel
theorem dX3_air_19 : decode cX3_air 19 = .ok (.astore_n 2, 1) := by decide +kernel
theorem dX3_air_20 : decode cX3_air 20 = .ok (.goto (-16), 3) := by decide +kernel
theorem dX3_air_23 : decode cX3_air 23 = .ok (.aload_n 0, 1) := by decide +kernel
theorem dX3_air_24 : decode cX3_air 24 = .ok (.iload_n 1, 1) := by decide +kernel
theorem dX3_air_25 : decode cX3_air 25 = .ok (.invokevirtual 31, 3) := by decide +kernel
theorem dX3_air_28 : decode cX3_air 28 = .ok (.ireturn, 1) := by decide +kernel
theorem dX3_airBehindLeaks_0 : decode cX3_airBehindLeaks 0 = .ok (.iconst 0, 1) := by decide +kernel
theorem dX3_airBehindLeaks_1 : decode cX3_airBehindLeaks 1 = .ok (.bipush 100, 2) := by decide +kernel
theorem dX3_airBehindLeaks_3 : decode cX3_airBehindLeaks 3 = .ok (.aload_n 0, 1) := by decide +kernel
theorem dX3_airBehindLeaks_4 : decode cX3_airBehindLeaks 4 = .ok (.getfield 19, 3) := by decide +kernel
theorem dX3_airBehindLeaks_7 : decode cX3_airBehindLeaks 7 = .ok (.isub, 1) := by decide +kernel
theorem dX3_airBehindLeaks_8 : decode cX3_airBehindLeaks 8 = .ok (.iload_n 1, 1) := by decide +kernel
theorem dX3_airBehindLeaks_9 : decode cX3_airBehindLeaks 9 = .ok (.isub, 1) := by decide +kernel
theorem dX3_airBehindLeaks_10 : decode cX3_airBehindLeaks 10 = .ok (.invokestatic 35, 3) := by decide +kernel
theorem dX3_airBehindLeaks_13 : decode cX3_airBehindLeaks 13 = .ok (.ireturn, 1) := by decide +kernel
theorem dX3_isFedThrough_0 : decode cX3_isFedThrough 0 = .ok (.aload_n 0, 1) := by decide +kernel
theorem dX3_isFedThrough_1 : decode cX3_isFedThrough 1 = .ok (.getfield 25, 3) := by decide +kernel
theorem dX3_isFedThrough_4 : decode cX3_isFedThrough 4 = .ok (.iconst 1, 1) := by decide +kernel
theorem dX3_isFedThrough_5 : decode cX3_isFedThrough 5 = .ok (.iload_n 1, 1) := by decide +kernel
theorem dX3_isFedThrough_6 : decode cX3_isFedThrough 6 = .ok (.ishl, 1) := by decide +kernel
theorem dX3_isFedThrough_7 : decode cX3_isFedThrough 7 = .ok (.iand, 1) := by decide +kernel
theorem dX3_isFedThrough_8 : decode cX3_isFedThrough 8 = .ok (.ifCond .eq 7, 3) := by decide +kernel
theorem dX3_isFedThrough_11 : decode cX3_isFedThrough 11 = .ok (.iconst 1, 1) := by decide +kernel
theorem dX3_isFedThrough_12 : decode cX3_isFedThrough 12 = .ok (.goto 4, 3) := by decide +kernel
theorem dX3_isFedThrough_15 : decode cX3_isFedThrough 15 = .ok (.iconst 0, 1) := by decide +kernel
theorem dX3_isFedThrough_16 : decode cX3_isFedThrough 16 = .ok (.ireturn, 1) := by decide +kernel
theorem dX6_init_0 : decode cX6_init 0 = .ok (.aload_n 0, 1) := by decide +kernel
theorem dX6_init_1 : decode cX6_init 1 = .ok (.invokespecial 1, 3) := by decide +kernel
theorem dX6_init_4 : decode cX6_init 4 = .ok (.aload_n 0, 1) := by decide +kernel
theorem dX6_init_5 : decode cX6_init 5 = .ok (.bipush 16, 2) := by decide +kernel
theorem dX6_init_7 : decode cX6_init 7 = .ok (.newarray .int, 2) := by decide +kernel
theorem dX6_init_9 : decode cX6_init 9 = .ok (.putfield 9, 3) := by decide +kernel
theorem dX6_init_12 : decode cX6_init 12 = .ok (.return_, 1) := by decide +kernel
theorem dX6_begin_0 : decode cX6_begin 0 = .ok (.aload_n 0, 1) := by decide +kernel
theorem dX6_begin_1 : decode cX6_begin 1 = .ok (.getfield 13, 3) := by decide +kernel
theorem dX6_begin_4 : decode cX6_begin 4 = .ok (.bipush 16, 2) := by decide +kernel
theorem dX6_begin_6 : decode cX6_begin 6 = .ok (.if_icmp .ge 23, 3) := by decide +kernel
theorem dX6_begin_9 : decode cX6_begin 9 = .ok (.aload_n 0, 1) := by decide +kernel
theorem dX6_begin_10 : decode cX6_begin 10 = .ok (.getfield 9, 3) := by decide +kernel
theorem dX6_begin_13 : decode cX6_begin 13 = .ok (.aload_n 0, 1) := by decide +kernel
theorem dX6_begin_14 : decode cX6_begin 14 = .ok (.getfield 13, 3) := by decide +kernel
theorem dX6_begin_17 : decode cX6_begin 17 = .ok (.iload_n 1, 1) := by decide +kernel
theorem dX6_begin_18 : decode cX6_begin 18 = .ok (.iastore, 1) := by decide +kernel
theorem dX6_begin_19 : decode cX6_begin 19 = .ok (.aload_n 0, 1) := by decide +kernel
theorem dX6_begin_20 : decode cX6_begin 20 = .ok (.dup, 1) := by decide +kernel
theorem dX6_begin_21 : decode cX6_begin 21 = .ok (.getfield 13, 3) := by decide +kernel
theorem dX6_begin_24 : decode cX6_begin 24 = .ok (.iconst 1, 1) := by decide +kernel
theorem dX6_begin_25 : decode cX6_begin 25 = .ok (.iadd, 1) := by decide +kernel
theorem dX6_begin_26 : decode cX6_begin 26 = .ok (.putfield 13, 3) := by decide +kernel
theorem dX6_begin_29 : decode cX6_begin 29 = .ok (.return_, 1) := by decide +kernel
end
section
theorem dX4_init_0 : decode cX4_init 0 = .ok (.aload_n 0, 1) := by decide +kernel
theorem dX4_init_1 : decode cX4_init 1 = .ok (.invokespecial 3, 3) := by decide +kernel
theorem dX4_init_4 : decode cX4_init 4 = .ok (.aload_n 0, 1) := by decide +kernel
theorem dX4_init_5 : decode cX4_init 5 = .ok (.bipush 40, 2) := by decide +kernel
theorem dX4_init_7 : decode cX4_init 7 = .ok (.newarray .int, 2) := by decide +kernel
theorem dX4_init_9 : decode cX4_init 9 = .ok (.putfield 9, 3) := by decide +kernel
theorem dX4_init_12 : decode cX4_init 12 = .ok (.aload_n 0, 1) := by decide +kernel
theorem dX4_init_13 : decode cX4_init 13 = .ok (.bipush 40, 2) := by decide +kernel
theorem dX4_init_15 : decode cX4_init 15 = .ok (.newarray .int, 2) := by decide +kernel
theorem dX4_init_17 : decode cX4_init 17 = .ok (.putfield 15, 3) := by decide +kernel
theorem dX4_init_20 : decode cX4_init 20 = .ok (.aload_n 0, 1) := by decide +kernel
theorem dX4_init_21 : decode cX4_init 21 = .ok (.bipush 40, 2) := by decide +kernel
theorem dX4_init_23 : decode cX4_init 23 = .ok (.newarray .int, 2) := by decide +kernel
theorem dX4_init_25 : decode cX4_init 25 = .ok (.putfield 18, 3) := by decide +kernel
theorem dX4_init_28 : decode cX4_init 28 = .ok (.aload_n 0, 1) := by decide +kernel
theorem dX4_init_29 : decode cX4_init 29 = .ok (.aload_n 1, 1) := by decide +kernel
theorem dX4_init_30 : decode cX4_init 30 = .ok (.putfield 21, 3) := by decide +kernel
theorem dX4_init_33 : decode cX4_init 33 = .ok (.return_, 1) := by decide +kernel
set_option maxRecDepth 20000 in
theorem ggX4_readTape_J7_fill_53178 : GoodIn wsX4_readTape wsJ7_fill_53178 := goodIn_r _ [8] (by decide +kernel) (by decide +kernel)
set_option maxRecDepth 20000 in
theorem gX4_readTape_J7_fill_53178 : GoodIn wsX4_readTape (va_wsS RX4 25 yJ7_fill_53178 wsJ7_fill_53178) := goodIn_app (goodIn_of _ (by decide +kernel)) ggX4_readTape_J7_fill_53178
set_option maxRecDepth 20000 in
theorem ggX4_readTape_X5_rewind : GoodIn wsX4_readTape wsX5_rewind := goodIn_r _ [13, 14, 134, 135, 136, 137, 138] (by decide +kernel) (by decide +kernel)
set_option maxRecDepth 20000 in
theorem gX4_readTape_X5_rewind : GoodIn wsX4_readTape (wsV RX4 35 RX5 yX5_rewind wsX5_rewind) := goodIn_app (goodIn_of _ (by decide +kernel)) ggX4_readTape_X5_rewind
set_option maxRecDepth 20000 in
theorem ggX4_readTape_X5_readToken : GoodIn wsX4_readTape wsX5_readToken := goodIn_r _ [18, 14, 19, 20, 21, 22, 23, 24, 12, 25, 26, 27, 28, 29, 30, 31, 32, 33, 34, 35, 36, 37, 38, 39, 134, 135, 136, 137, 138] (by decide +kernel) (by decide +kernel)
set_option maxRecDepth 20000 in
theorem gX4_readTape_X5_readToken : GoodIn wsX4_readTape (wsV RX4 40 RX5 yX5_readToken wsX5_readToken) := goodIn_app (goodIn_of _ (by decide +kernel)) ggX4_readTape_X5_readToken
set_option maxRecDepth 20000 in
theorem ggX4_readTape_X4_readContract : GoodIn wsX4_readTape wsX4_readContract := goodIn_r _ [44, 3, 1, 45, 46, 47, 48, 49, 12, 50, 22, 14, 19, 21, 51, 52, 53, 54, 55, 56, 57, 58, 59, 60, 61, 62, 63, 64, 65, 66, 67, 68, 69, 70, 71, 72, 73, 74, 75, 76, 77, 78, 79, 80, 81, 82, 83, 84, 85, 86, 87, 88, 89, 90, 91, 92, 93, 94, 95, 96, 97, 98, 99, 100, 101, 102, 43, 103, 104, 105, 106, 107, 108, 109, 110, 4, 15, 16, 17, 18, 20, 23, 24, 25, 26, 27, 28, 29, 30, 31, 32, 33, 34, 35, 36, 37, 38, 39, 111, 112, 113, 114, 115, 116, 117, 118, 119, 120, 121, 122, 123, 124, 125, 126, 127, 128, 129, 130, 131, 132, 133, 134, 135, 136, 137, 138] (by decide +kernel) (by decide +kernel)
set_option maxRecDepth 20000 in
theorem gX4_readTape_X4_readContract : GoodIn wsX4_readTape (wsV RX4 46 RX4 yX4_readContract wsX4_readContract) := goodIn_app (goodIn_of _ (by decide +kernel)) ggX4_readTape_X4_readContract
theorem dX4_readTape_0 : decode cX4_readTape 0 = .ok (.aload_n 0, 1) := by decide +kernel
theorem dX4_readTape_1 : decode cX4_readTape 1 = .ok (.getfield 9, 3) := by decide +kernel
theorem dX4_readTape_4 : decode cX4_readTape 4 = .ok (.iconst 0, 1) := by decide +kernel
theorem dX4_readTape_5 : decode cX4_readTape 5 = .ok (.invokestatic 25, 3) := by decide +kernel
theorem dX4_readTape_8 : decode cX4_readTape 8 = .ok (.aload_n 0, 1) := by decide +kernel
theorem dX4_readTape_9 : decode cX4_readTape 9 = .ok (.iconst 0, 1) := by decide +kernel
theorem dX4_readTape_10 : decode cX4_readTape 10 = .ok (.putfield 31, 3) := by decide +kernel
theorem dX4_readTape_13 : decode cX4_readTape 13 = .ok (.aload_n 0, 1) := by decide +kernel
theorem dX4_readTape_14 : decode cX4_readTape 14 = .ok (.getfield 21, 3) := by decide +kernel
theorem dX4_readTape_17 : decode cX4_readTape 17 = .ok (.invokevirtual 35, 3) := by decide +kernel
theorem dX4_readTape_20 : decode cX4_readTape 20 = .ok (.aload_n 0, 1) := by decide +kernel
theorem dX4_readTape_21 : decode cX4_readTape 21 = .ok (.getfield 21, 3) := by decide +kernel
theorem dX4_readTape_24 : decode cX4_readTape 24 = .ok (.invokevirtual 40, 3) := by decide +kernel
theorem dX4_readTape_27 : decode cX4_readTape 27 = .ok (.aload_n 0, 1) := by decide +kernel
theorem dX4_readTape_28 : decode cX4_readTape 28 = .ok (.getfield 21, 3) := by decide +kernel
theorem dX4_readTape_31 : decode cX4_readTape 31 = .ok (.getfield 43, 3) := by decide +kernel
theorem dX4_readTape_34 : decode cX4_readTape 34 = .ok (.ifCond .eq 43, 3) := by decide +kernel
theorem dX4_readTape_37 : decode cX4_readTape 37 = .ok (.aload_n 0, 1) := by decide +kernel
theorem dX4_readTape_38 : decode cX4_readTape 38 = .ok (.getfield 31, 3) := by decide +kernel
theorem dX4_readTape_41 : decode cX4_readTape 41 = .ok (.sipush 300, 3) := by decide +kernel
theorem dX4_readTape_44 : decode cX4_readTape 44 = .ok (.if_icmp .gt 33, 3) := by decide +kernel
theorem dX4_readTape_47 : decode cX4_readTape 47 = .ok (.aload_n 0, 1) := by decide +kernel
theorem dX4_readTape_48 : decode cX4_readTape 48 = .ok (.iload_n 1, 1) := by decide +kernel
theorem dX4_readTape_49 : decode cX4_readTape 49 = .ok (.invokevirtual 46, 3) := by decide +kernel
theorem dX4_readTape_52 : decode cX4_readTape 52 = .ok (.ifCond .ne 5, 3) := by decide +kernel
theorem dX4_readTape_55 : decode cX4_readTape 55 = .ok (.iconst 0, 1) := by decide +kernel
theorem dX4_readTape_56 : decode cX4_readTape 56 = .ok (.ireturn, 1) := by decide +kernel
theorem dX4_readTape_57 : decode cX4_readTape 57 = .ok (.aload_n 0, 1) := by decide +kernel
theorem dX4_readTape_58 : decode cX4_readTape 58 = .ok (.dup, 1) := by decide +kernel
theorem dX4_readTape_59 : decode cX4_readTape 59 = .ok (.getfield 31, 3) := by decide +kernel
theorem dX4_readTape_62 : decode cX4_readTape 62 = .ok (.iconst 1, 1) := by decide +kernel
theorem dX4_readTape_63 : decode cX4_readTape 63 = .ok (.iadd, 1) := by decide +kernel
theorem dX4_readTape_64 : decode cX4_readTape 64 = .ok (.putfield 31, 3) := by decide +kernel
theorem dX4_readTape_67 : decode cX4_readTape 67 = .ok (.aload_n 0, 1) := by decide +kernel
theorem dX4_readTape_68 : decode cX4_readTape 68 = .ok (.getfield 21, 3) := by decide +kernel
theorem dX4_readTape_71 : decode cX4_readTape 71 = .ok (.invokevirtual 40, 3) := by decide +kernel
theorem dX4_readTape_74 : decode cX4_readTape 74 = .ok (.goto (-47), 3) := by decide +kernel
theorem dX4_readTape_77 : decode cX4_readTape 77 = .ok (.iconst 1, 1) := by decide +kernel
theorem dX4_readTape_78 : decode cX4_readTape 78 = .ok (.ireturn, 1) := by decide +kernel
set_option maxRecDepth 20000 in
theorem ggX4_readContract_X5_isName : GoodIn wsX4_readContract wsX5_isName := goodIn_r _ [9, 10, 11, 12, 13, 14, 15, 16, 17, 18, 19, 20, 21, 22, 23, 24, 25, 26, 27, 28, 29, 30, 31, 32, 33, 34, 35, 36, 37, 38, 39, 40, 41, 42, 43, 44, 45, 46, 47, 48, 49, 50, 51, 52, 53, 54, 55, 56, 57, 58, 59, 60, 61, 62, 121, 122, 123, 124, 125] (by decide +kernel) (by decide +kernel)
set_option maxRecDepth 20000 in
theorem gX4_readContract_X5_isName : GoodIn wsX4_readContract (wsV RX4 52 RX5 yX5_isName wsX5_isName) := goodIn_app (goodIn_of _ (by decide +kernel)) ggX4_readContract_X5_isName
set_option maxRecDepth 20000 in
theorem ggX4_readContract_X4_refuse : GoodIn wsX4_readContract wsX4_refuse := goodIn_r _ [67, 68, 1, 69, 70, 114, 115, 116, 117, 118, 119, 120, 121, 122, 123, 124, 125] (by decide +kernel) (by decide +kernel)
set_option maxRecDepth 20000 in
theorem gX4_readContract_X4_refuse : GoodIn wsX4_readContract (wsV RX4 56 RX4 yX4_refuse wsX4_refuse) := goodIn_app (goodIn_of _ (by decide +kernel)) ggX4_readContract_X4_refuse
set_option maxRecDepth 20000 in
theorem ggX4_readContract_X4_readNumber : GoodIn wsX4_readContract wsX4_readNumber := goodIn_r _ [74, 1, 75, 76, 77, 78, 8, 79, 11, 12, 80, 13, 10, 81, 82, 83, 84, 85, 86, 87, 88, 89, 90, 91, 92, 93, 94, 95, 96, 97, 63, 64, 65, 66, 67, 68, 69, 70, 114, 115, 116, 117, 118, 119, 120, 121, 122, 123, 124, 125] (by decide +kernel) (by decide +kernel)
set_option maxRecDepth 20000 in
theorem gX4_readContract_X4_readNumber : GoodIn wsX4_readContract (wsV RX4 59 RX4 yX4_readNumber wsX4_readNumber) := goodIn_app (goodIn_of _ (by decide +kernel)) ggX4_readContract_X4_readNumber
set_option maxRecDepth 20000 in
theorem ggX4_readContract_X5_numberValue : GoodIn wsX4_readContract wsX5_numberValue := goodIn_r _ [101, 12, 11, 13, 121, 122, 123, 124, 125] (by decide +kernel) (by decide +kernel)
set_option maxRecDepth 20000 in
theorem gX4_readContract_X5_numberValue : GoodIn wsX4_readContract (wsV RX4 63 RX5 yX5_numberValue wsX5_numberValue) := goodIn_app (goodIn_of _ (by decide +kernel)) ggX4_readContract_X5_numberValue
set_option maxRecDepth 20000 in
theorem ggX4_readContract_X5_readToken : GoodIn wsX4_readContract wsX5_readToken := goodIn_r _ [79, 11, 12, 80, 13, 10, 81, 82, 8, 83, 84, 85, 86, 87, 88, 89, 90, 91, 92, 93, 94, 95, 96, 97, 121, 122, 123, 124, 125] (by decide +kernel) (by decide +kernel)
set_option maxRecDepth 20000 in
theorem gX4_readContract_X5_readToken : GoodIn wsX4_readContract (wsV RX4 40 RX5 yX5_readToken wsX5_readToken) := goodIn_app (goodIn_of _ (by decide +kernel)) ggX4_readContract_X5_readToken
set_option maxRecDepth 20000 in
theorem ggX4_readContract_X4_namedTerms : GoodIn wsX4_readContract wsX4_namedTerms := goodIn_r _ [105, 1, 5, 6, 7, 8, 9, 10, 11, 12, 13, 14, 15, 16, 17, 18, 19, 20, 21, 22, 23, 24, 25, 26, 27, 28, 29, 30, 31, 32, 33, 34, 35, 36, 37, 38, 39, 40, 41, 42, 43, 44, 45, 46, 47, 48, 49, 50, 51, 52, 53, 54, 55, 56, 57, 58, 59, 60, 61, 62, 114, 115, 116, 117, 118, 119, 120, 121, 122, 123, 124, 125] (by decide +kernel) (by decide +kernel)
set_option maxRecDepth 20000 in
theorem gX4_readContract_X4_namedTerms : GoodIn wsX4_readContract (wsV RX4 67 RX4 yX4_namedTerms wsX4_namedTerms) := goodIn_app (goodIn_of _ (by decide +kernel)) ggX4_readContract_X4_namedTerms
set_option maxRecDepth 20000 in
theorem ggX4_readContract_X4_readSign : GoodIn wsX4_readContract wsX4_readSign := goodIn_r _ [109, 1, 76, 77, 78, 8, 79, 11, 12, 80, 13, 10, 81, 82, 83, 84, 85, 86, 87, 88, 89, 90, 91, 92, 93, 94, 95, 96, 97, 110, 111, 112, 113, 63, 64, 65, 66, 67, 68, 69, 70, 114, 115, 116, 117, 118, 119, 120, 121, 122, 123, 124, 125] (by decide +kernel) (by decide +kernel)
set_option maxRecDepth 20000 in
theorem gX4_readContract_X4_readSign : GoodIn wsX4_readContract (wsV RX4 70 RX4 yX4_readSign wsX4_readSign) := goodIn_app (goodIn_of _ (by decide +kernel)) ggX4_readContract_X4_readSign
theorem dX4_readContract_0 : decode cX4_readContract 0 = .ok (.aload_n 0, 1) := by decide +kernel
theorem dX4_readContract_1 : decode cX4_readContract 1 = .ok (.getfield 21, 3) := by decide +kernel
theorem dX4_readContract_4 : decode cX4_readContract 4 = .ok (.ldc 50, 2) := by decide +kernel
theorem dX4_readContract_6 : decode cX4_readContract 6 = .ok (.invokevirtual 52, 3) := by decide +kernel
theorem dX4_readContract_9 : decode cX4_readContract 9 = .ok (.ifCond .ne 9, 3) := by decide +kernel
theorem dX4_readContract_12 : decode cX4_readContract 12 = .ok (.aload_n 0, 1) := by decide +kernel
theorem dX4_readContract_13 : decode cX4_readContract 13 = .ok (.iconst 1, 1) := by decide +kernel
theorem dX4_readContract_14 : decode cX4_readContract 14 = .ok (.invokevirtual 56, 3) := by decide +kernel
theorem dX4_readContract_17 : decode cX4_readContract 17 = .ok (.ireturn, 1) := by decide +kernel
theorem dX4_readContract_18 : decode cX4_readContract 18 = .ok (.aload_n 0, 1) := by decide +kernel
theorem dX4_readContract_19 : decode cX4_readContract 19 = .ok (.invokevirtual 59, 3) := by decide +kernel
theorem dX4_readContract_22 : decode cX4_readContract 22 = .ok (.ifCond .ne 5, 3) := by decide +kernel
theorem dX4_readContract_25 : decode cX4_readContract 25 = .ok (.iconst 0, 1) := by decide +kernel
theorem dX4_readContract_26 : decode cX4_readContract 26 = .ok (.ireturn, 1) := by decide +kernel
theorem dX4_readContract_27 : decode cX4_readContract 27 = .ok (.aload_n 0, 1) := by decide +kernel
theorem dX4_readContract_28 : decode cX4_readContract 28 = .ok (.getfield 21, 3) := by decide +kernel
theorem dX4_readContract_31 : decode cX4_readContract 31 = .ok (.invokevirtual 63, 3) := by decide +kernel
theorem dX4_readContract_34 : decode cX4_readContract 34 = .ok (.istore_n 2, 1) := by decide +kernel
theorem dX4_readContract_35 : decode cX4_readContract 35 = .ok (.iload_n 2, 1) := by decide +kernel
theorem dX4_readContract_36 : decode cX4_readContract 36 = .ok (.iload_n 1, 1) := by decide +kernel
theorem dX4_readContract_37 : decode cX4_readContract 37 = .ok (.if_icmp .ge 9, 3) := by decide +kernel
theorem dX4_readContract_40 : decode cX4_readContract 40 = .ok (.iload_n 2, 1) := by decide +kernel
theorem dX4_readContract_41 : decode cX4_readContract 41 = .ok (.bipush 40, 2) := by decide +kernel
theorem dX4_readContract_43 : decode cX4_readContract 43 = .ok (.if_icmp .lt 9, 3) := by decide +kernel
theorem dX4_readContract_46 : decode cX4_readContract 46 = .ok (.aload_n 0, 1) := by decide +kernel
theorem dX4_readContract_47 : decode cX4_readContract 47 = .ok (.iconst 2, 1) := by decide +kernel
theorem dX4_readContract_48 : decode cX4_readContract 48 = .ok (.invokevirtual 56, 3) := by decide +kernel
theorem dX4_readContract_51 : decode cX4_readContract 51 = .ok (.ireturn, 1) := by decide +kernel
theorem dX4_readContract_52 : decode cX4_readContract 52 = .ok (.aload_n 0, 1) := by decide +kernel
theorem dX4_readContract_53 : decode cX4_readContract 53 = .ok (.getfield 21, 3) := by decide +kernel
theorem dX4_readContract_56 : decode cX4_readContract 56 = .ok (.invokevirtual 40, 3) := by decide +kernel
theorem dX4_readContract_59 : decode cX4_readContract 59 = .ok (.aload_n 0, 1) := by decide +kernel
theorem dX4_readContract_60 : decode cX4_readContract 60 = .ok (.invokevirtual 67, 3) := by decide +kernel
theorem dX4_readContract_63 : decode cX4_readContract 63 = .ok (.istore_n 3, 1) := by decide +kernel
theorem dX4_readContract_64 : decode cX4_readContract 64 = .ok (.iload_n 3, 1) := by decide +kernel
theorem dX4_readContract_65 : decode cX4_readContract 65 = .ok (.ifCond .ne 9, 3) := by decide +kernel
theorem dX4_readContract_68 : decode cX4_readContract 68 = .ok (.aload_n 0, 1) := by decide +kernel
theorem dX4_readContract_69 : decode cX4_readContract 69 = .ok (.iconst 1, 1) := by decide +kernel
theorem dX4_readContract_70 : decode cX4_readContract 70 = .ok (.invokevirtual 56, 3) := by decide +kernel
theorem dX4_readContract_73 : decode cX4_readContract 73 = .ok (.ireturn, 1) := by decide +kernel
theorem dX4_readContract_74 : decode cX4_readContract 74 = .ok (.iconst 0, 1) := by decide +kernel
theorem dX4_readContract_75 : decode cX4_readContract 75 = .ok (.istore 4, 2) := by decide +kernel
theorem dX4_readContract_77 : decode cX4_readContract 77 = .ok (.iload_n 3, 1) := by decide +kernel
theorem dX4_readContract_78 : decode cX4_readContract 78 = .ok (.iconst 3, 1) := by decide +kernel
theorem dX4_readContract_79 : decode cX4_readContract 79 = .ok (.if_icmp .ne 30, 3) := by decide +kernel
theorem dX4_readContract_82 : decode cX4_readContract 82 = .ok (.aload_n 0, 1) := by decide +kernel
theorem dX4_readContract_83 : decode cX4_readContract 83 = .ok (.bipush 60, 2) := by decide +kernel
theorem dX4_readContract_85 : decode cX4_readContract 85 = .ok (.invokevirtual 70, 3) := by decide +kernel
theorem dX4_readContract_88 : decode cX4_readContract 88 = .ok (.ifCond .eq 10, 3) := by decide +kernel
theorem dX4_readContract_91 : decode cX4_readContract 91 = .ok (.aload_n 0, 1) := by decide +kernel
theorem dX4_readContract_92 : decode cX4_readContract 92 = .ok (.invokevirtual 59, 3) := by decide +kernel
theorem dX4_readContract_95 : decode cX4_readContract 95 = .ok (.ifCond .ne 5, 3) := by decide +kernel
theorem dX4_readContract_98 : decode cX4_readContract 98 = .ok (.iconst 0, 1) := by decide +kernel
theorem dX4_readContract_99 : decode cX4_readContract 99 = .ok (.ireturn, 1) := by decide +kernel
theorem dX4_readContract_100 : decode cX4_readContract 100 = .ok (.aload_n 0, 1) := by decide +kernel
theorem dX4_readContract_101 : decode cX4_readContract 101 = .ok (.getfield 21, 3) := by decide +kernel
theorem dX4_readContract_104 : decode cX4_readContract 104 = .ok (.invokevirtual 63, 3) := by decide +kernel
theorem dX4_readContract_107 : decode cX4_readContract 107 = .ok (.istore 4, 2) := by decide +kernel
theorem dX4_readContract_109 : decode cX4_readContract 109 = .ok (.aload_n 0, 1) := by decide +kernel
theorem dX4_readContract_110 : decode cX4_readContract 110 = .ok (.invokevirtual 59, 3) := by decide +kernel
theorem dX4_readContract_113 : decode cX4_readContract 113 = .ok (.ifCond .ne 5, 3) := by decide +kernel
theorem dX4_readContract_116 : decode cX4_readContract 116 = .ok (.iconst 0, 1) := by decide +kernel
theorem dX4_readContract_117 : decode cX4_readContract 117 = .ok (.ireturn, 1) := by decide +kernel
theorem dX4_readContract_118 : decode cX4_readContract 118 = .ok (.aload_n 0, 1) := by decide +kernel
theorem dX4_readContract_119 : decode cX4_readContract 119 = .ok (.getfield 21, 3) := by decide +kernel
theorem dX4_readContract_122 : decode cX4_readContract 122 = .ok (.invokevirtual 63, 3) := by decide +kernel
theorem dX4_readContract_125 : decode cX4_readContract 125 = .ok (.istore 5, 2) := by decide +kernel
theorem dX4_readContract_127 : decode cX4_readContract 127 = .ok (.aload_n 0, 1) := by decide +kernel
theorem dX4_readContract_128 : decode cX4_readContract 128 = .ok (.bipush 59, 2) := by decide +kernel
theorem dX4_readContract_130 : decode cX4_readContract 130 = .ok (.invokevirtual 70, 3) := by decide +kernel
theorem dX4_readContract_133 : decode cX4_readContract 133 = .ok (.ifCond .ne 5, 3) := by decide +kernel
theorem dX4_readContract_136 : decode cX4_readContract 136 = .ok (.iconst 0, 1) := by decide +kernel
theorem dX4_readContract_137 : decode cX4_readContract 137 = .ok (.ireturn, 1) := by decide +kernel
theorem dX4_readContract_138 : decode cX4_readContract 138 = .ok (.aload_n 0, 1) := by decide +kernel
theorem dX4_readContract_139 : decode cX4_readContract 139 = .ok (.getfield 9, 3) := by decide +kernel
theorem dX4_readContract_142 : decode cX4_readContract 142 = .ok (.iload_n 2, 1) := by decide +kernel
theorem dX4_readContract_143 : decode cX4_readContract 143 = .ok (.iload_n 3, 1) := by decide +kernel
theorem dX4_readContract_144 : decode cX4_readContract 144 = .ok (.iastore, 1) := by decide +kernel
theorem dX4_readContract_145 : decode cX4_readContract 145 = .ok (.aload_n 0, 1) := by decide +kernel
theorem dX4_readContract_146 : decode cX4_readContract 146 = .ok (.getfield 15, 3) := by decide +kernel
theorem dX4_readContract_149 : decode cX4_readContract 149 = .ok (.iload_n 2, 1) := by decide +kernel
theorem dX4_readContract_150 : decode cX4_readContract 150 = .ok (.iload 4, 2) := by decide +kernel
theorem dX4_readContract_152 : decode cX4_readContract 152 = .ok (.iastore, 1) := by decide +kernel
theorem dX4_readContract_153 : decode cX4_readContract 153 = .ok (.aload_n 0, 1) := by decide +kernel
theorem dX4_readContract_154 : decode cX4_readContract 154 = .ok (.getfield 18, 3) := by decide +kernel
theorem dX4_readContract_157 : decode cX4_readContract 157 = .ok (.iload_n 2, 1) := by decide +kernel
theorem dX4_readContract_158 : decode cX4_readContract 158 = .ok (.iload 5, 2) := by decide +kernel
theorem dX4_readContract_160 : decode cX4_readContract 160 = .ok (.iastore, 1) := by decide +kernel
theorem dX4_readContract_161 : decode cX4_readContract 161 = .ok (.iconst 1, 1) := by decide +kernel
theorem dX4_readContract_162 : decode cX4_readContract 162 = .ok (.ireturn, 1) := by decide +kernel
set_option maxRecDepth 20000 in
theorem ggX4_namedTerms_X5_isName : GoodIn wsX4_namedTerms wsX5_isName := goodIn_r _ [6, 7, 8, 9, 10, 11, 12, 13, 14, 15, 16, 17, 18, 19, 20, 21, 22, 23, 24, 25, 26, 27, 28, 29, 30, 31, 32, 33, 34, 35, 36, 37, 38, 39, 40, 41, 42, 43, 44, 45, 46, 47, 48, 49, 50, 51, 52, 53, 54, 55, 56, 57, 58, 59, 67, 68, 69, 70, 71] (by decide +kernel) (by decide +kernel)
set_option maxRecDepth 20000 in
theorem gX4_namedTerms_X5_isName : GoodIn wsX4_namedTerms (wsV RX4 52 RX5 yX5_isName wsX5_isName) := goodIn_app (goodIn_of _ (by decide +kernel)) ggX4_namedTerms_X5_isName
theorem dX4_namedTerms_0 : decode cX4_namedTerms 0 = .ok (.aload_n 0, 1) := by decide +kernel
theorem dX4_namedTerms_1 : decode cX4_namedTerms 1 = .ok (.getfield 21, 3) := by decide +kernel
theorem dX4_namedTerms_4 : decode cX4_namedTerms 4 = .ok (.ldc 74, 2) := by decide +kernel
theorem dX4_namedTerms_6 : decode cX4_namedTerms 6 = .ok (.invokevirtual 52, 3) := by decide +kernel
theorem dX4_namedTerms_9 : decode cX4_namedTerms 9 = .ok (.ifCond .eq 5, 3) := by decide +kernel
theorem dX4_namedTerms_12 : decode cX4_namedTerms 12 = .ok (.iconst 1, 1) := by decide +kernel
theorem dX4_namedTerms_13 : decode cX4_namedTerms 13 = .ok (.ireturn, 1) := by decide +kernel
theorem dX4_namedTerms_14 : decode cX4_namedTerms 14 = .ok (.aload_n 0, 1) := by decide +kernel
theorem dX4_namedTerms_15 : decode cX4_namedTerms 15 = .ok (.getfield 21, 3) := by decide +kernel
theorem dX4_namedTerms_18 : decode cX4_namedTerms 18 = .ok (.ldc 76, 2) := by decide +kernel
theorem dX4_namedTerms_20 : decode cX4_namedTerms 20 = .ok (.invokevirtual 52, 3) := by decide +kernel
theorem dX4_namedTerms_23 : decode cX4_namedTerms 23 = .ok (.ifCond .eq 5, 3) := by decide +kernel
theorem dX4_namedTerms_26 : decode cX4_namedTerms 26 = .ok (.iconst 2, 1) := by decide +kernel
theorem dX4_namedTerms_27 : decode cX4_namedTerms 27 = .ok (.ireturn, 1) := by decide +kernel
theorem dX4_namedTerms_28 : decode cX4_namedTerms 28 = .ok (.aload_n 0, 1) := by decide +kernel
theorem dX4_namedTerms_29 : decode cX4_namedTerms 29 = .ok (.getfield 21, 3) := by decide +kernel
theorem dX4_namedTerms_32 : decode cX4_namedTerms 32 = .ok (.ldc 78, 2) := by decide +kernel
theorem dX4_namedTerms_34 : decode cX4_namedTerms 34 = .ok (.invokevirtual 52, 3) := by decide +kernel
theorem dX4_namedTerms_37 : decode cX4_namedTerms 37 = .ok (.ifCond .eq 7, 3) := by decide +kernel
theorem dX4_namedTerms_40 : decode cX4_namedTerms 40 = .ok (.iconst 3, 1) := by decide +kernel
theorem dX4_namedTerms_41 : decode cX4_namedTerms 41 = .ok (.goto 4, 3) := by decide +kernel
theorem dX4_namedTerms_44 : decode cX4_namedTerms 44 = .ok (.iconst 0, 1) := by decide +kernel
theorem dX4_namedTerms_45 : decode cX4_namedTerms 45 = .ok (.ireturn, 1) := by decide +kernel
set_option maxRecDepth 20000 in
theorem ggX4_readNumber_X5_readToken : GoodIn wsX4_readNumber wsX5_readToken := goodIn_r _ [7, 8, 9, 10, 11, 12, 13, 14, 6, 15, 16, 17, 18, 19, 20, 21, 22, 23, 24, 25, 26, 27, 28, 29, 45, 46, 47, 48, 49] (by decide +kernel) (by decide +kernel)
set_option maxRecDepth 20000 in
theorem gX4_readNumber_X5_readToken : GoodIn wsX4_readNumber (wsV RX4 40 RX5 yX5_readToken wsX5_readToken) := goodIn_app (goodIn_of _ (by decide +kernel)) ggX4_readNumber_X5_readToken
set_option maxRecDepth 20000 in
theorem ggX4_readNumber_X4_refuse : GoodIn wsX4_readNumber wsX4_refuse := goodIn_r _ [34, 35, 1, 36, 37, 38, 39, 40, 41, 42, 43, 44, 45, 46, 47, 48, 49] (by decide +kernel) (by decide +kernel)
set_option maxRecDepth 20000 in
theorem gX4_readNumber_X4_refuse : GoodIn wsX4_readNumber (wsV RX4 56 RX4 yX4_refuse wsX4_refuse) := goodIn_app (goodIn_of _ (by decide +kernel)) ggX4_readNumber_X4_refuse
theorem dX4_readNumber_0 : decode cX4_readNumber 0 = .ok (.aload_n 0, 1) := by decide +kernel
theorem dX4_readNumber_1 : decode cX4_readNumber 1 = .ok (.getfield 21, 3) := by decide +kernel
theorem dX4_readNumber_4 : decode cX4_readNumber 4 = .ok (.invokevirtual 40, 3) := by decide +kernel
theorem dX4_readNumber_7 : decode cX4_readNumber 7 = .ok (.aload_n 0, 1) := by decide +kernel
theorem dX4_readNumber_8 : decode cX4_readNumber 8 = .ok (.getfield 21, 3) := by decide +kernel
theorem dX4_readNumber_11 : decode cX4_readNumber 11 = .ok (.getfield 43, 3) := by decide +kernel
theorem dX4_readNumber_14 : decode cX4_readNumber 14 = .ok (.iconst 2, 1) := by decide +kernel
theorem dX4_readNumber_15 : decode cX4_readNumber 15 = .ok (.if_icmp .eq 11, 3) := by decide +kernel
theorem dX4_readNumber_18 : decode cX4_readNumber 18 = .ok (.aload_n 0, 1) := by decide +kernel
theorem dX4_readNumber_19 : decode cX4_readNumber 19 = .ok (.iconst 1, 1) := by decide +kernel
theorem dX4_readNumber_20 : decode cX4_readNumber 20 = .ok (.invokevirtual 56, 3) := by decide +kernel
theorem dX4_readNumber_23 : decode cX4_readNumber 23 = .ok (.ifCond .eq 7, 3) := by decide +kernel
theorem dX4_readNumber_26 : decode cX4_readNumber 26 = .ok (.iconst 1, 1) := by decide +kernel
theorem dX4_readNumber_27 : decode cX4_readNumber 27 = .ok (.goto 4, 3) := by decide +kernel
theorem dX4_readNumber_30 : decode cX4_readNumber 30 = .ok (.iconst 0, 1) := by decide +kernel
theorem dX4_readNumber_31 : decode cX4_readNumber 31 = .ok (.ireturn, 1) := by decide +kernel
set_option maxRecDepth 20000 in
theorem ggX4_readSign_X5_readToken : GoodIn wsX4_readSign wsX5_readToken := goodIn_r _ [6, 7, 8, 9, 10, 11, 12, 13, 5, 14, 15, 16, 17, 18, 19, 20, 21, 22, 23, 24, 25, 26, 27, 28, 48, 49, 50, 51, 52] (by decide +kernel) (by decide +kernel)
set_option maxRecDepth 20000 in
theorem gX4_readSign_X5_readToken : GoodIn wsX4_readSign (wsV RX4 40 RX5 yX5_readToken wsX5_readToken) := goodIn_app (goodIn_of _ (by decide +kernel)) ggX4_readSign_X5_readToken
set_option maxRecDepth 20000 in
theorem ggX4_readSign_X5_isSign : GoodIn wsX4_readSign wsX5_isSign := goodIn_r _ [32, 11, 10, 8, 48, 49, 50, 51, 52] (by decide +kernel) (by decide +kernel)
set_option maxRecDepth 20000 in
theorem gX4_readSign_X5_isSign : GoodIn wsX4_readSign (wsV RX4 80 RX5 yX5_isSign wsX5_isSign) := goodIn_app (goodIn_of _ (by decide +kernel)) ggX4_readSign_X5_isSign
set_option maxRecDepth 20000 in
theorem ggX4_readSign_X4_refuse : GoodIn wsX4_readSign wsX4_refuse := goodIn_r _ [37, 38, 1, 39, 40, 41, 42, 43, 44, 45, 46, 47, 48, 49, 50, 51, 52] (by decide +kernel) (by decide +kernel)
set_option maxRecDepth 20000 in
theorem gX4_readSign_X4_refuse : GoodIn wsX4_readSign (wsV RX4 56 RX4 yX4_refuse wsX4_refuse) := goodIn_app (goodIn_of _ (by decide +kernel)) ggX4_readSign_X4_refuse
theorem dX4_readSign_0 : decode cX4_readSign 0 = .ok (.aload_n 0, 1) := by decide +kernel
theorem dX4_readSign_1 : decode cX4_readSign 1 = .ok (.getfield 21, 3) := by decide +kernel
theorem dX4_readSign_4 : decode cX4_readSign 4 = .ok (.invokevirtual 40, 3) := by decide +kernel
theorem dX4_readSign_7 : decode cX4_readSign 7 = .ok (.aload_n 0, 1) := by decide +kernel
theorem dX4_readSign_8 : decode cX4_readSign 8 = .ok (.getfield 21, 3) := by decide +kernel
theorem dX4_readSign_11 : decode cX4_readSign 11 = .ok (.iload_n 1, 1) := by decide +kernel
theorem dX4_readSign_12 : decode cX4_readSign 12 = .ok (.invokevirtual 80, 3) := by decide +kernel
theorem dX4_readSign_15 : decode cX4_readSign 15 = .ok (.ifCond .ne 11, 3) := by decide +kernel
theorem dX4_readSign_18 : decode cX4_readSign 18 = .ok (.aload_n 0, 1) := by decide +kernel
theorem dX4_readSign_19 : decode cX4_readSign 19 = .ok (.iconst 1, 1) := by decide +kernel
theorem dX4_readSign_20 : decode cX4_readSign 20 = .ok (.invokevirtual 56, 3) := by decide +kernel
theorem dX4_readSign_23 : decode cX4_readSign 23 = .ok (.ifCond .eq 7, 3) := by decide +kernel
theorem dX4_readSign_26 : decode cX4_readSign 26 = .ok (.iconst 1, 1) := by decide +kernel
theorem dX4_readSign_27 : decode cX4_readSign 27 = .ok (.goto 4, 3) := by decide +kernel
theorem dX4_readSign_30 : decode cX4_readSign 30 = .ok (.iconst 0, 1) := by decide +kernel
theorem dX4_readSign_31 : decode cX4_readSign 31 = .ok (.ireturn, 1) := by decide +kernel
theorem dX4_refuse_0 : decode cX4_refuse 0 = .ok (.aload_n 0, 1) := by decide +kernel
theorem dX4_refuse_1 : decode cX4_refuse 1 = .ok (.iload_n 1, 1) := by decide +kernel
theorem dX4_refuse_2 : decode cX4_refuse 2 = .ok (.putfield 83, 3) := by decide +kernel
theorem dX4_refuse_5 : decode cX4_refuse 5 = .ok (.aload_n 0, 1) := by decide +kernel
theorem dX4_refuse_6 : decode cX4_refuse 6 = .ok (.aload_n 0, 1) := by decide +kernel
theorem dX4_refuse_7 : decode cX4_refuse 7 = .ok (.getfield 21, 3) := by decide +kernel
theorem dX4_refuse_10 : decode cX4_refuse 10 = .ok (.getfield 86, 3) := by decide +kernel
theorem dX4_refuse_13 : decode cX4_refuse 13 = .ok (.putfield 89, 3) := by decide +kernel
theorem dX4_refuse_16 : decode cX4_refuse 16 = .ok (.iconst 0, 1) := by decide +kernel
theorem dX4_refuse_17 : decode cX4_refuse 17 = .ok (.ireturn, 1) := by decide +kernel
set_option maxRecDepth 20000 in
theorem ggX4_putInForce_Jx4a65c_size_8abf5 : GoodIn wsX4_putInForce wsJx4a65c_size_8abf5 := goodIn_r _ [9, 10, 44, 45, 46] (by decide +kernel) (by decide +kernel)
set_option maxRecDepth 20000 in
theorem gX4_putInForce_Jx4a65c_size_8abf5 : GoodIn wsX4_putInForce (wsV RX4 92 RJx4a65c yJx4a65c_size_8abf5 wsJx4a65c_size_8abf5) := goodIn_app (goodIn_of _ (by decide +kernel)) ggX4_putInForce_Jx4a65c_size_8abf5
set_option maxRecDepth 20000 in
theorem ggX4_putInForce_Jx4a65c_get_915e3 : GoodIn wsX4_putInForce wsJx4a65c_get_915e3 := goodIn_r _ [14, 10, 15, 16, 17, 18, 19, 20, 21, 22, 23, 24, 25, 8, 26, 27, 44, 45, 46] (by decide +kernel) (by decide +kernel)
set_option maxRecDepth 20000 in
theorem gX4_putInForce_Jx4a65c_get_915e3 : GoodIn wsX4_putInForce (wsV RX4 97 RJx4a65c yJx4a65c_get_915e3 wsJx4a65c_get_915e3) := goodIn_app (goodIn_of _ (by decide +kernel)) ggX4_putInForce_Jx4a65c_get_915e3
set_option maxRecDepth 20000 in
theorem ggX4_putInForce_X0_begin : GoodIn wsX4_putInForce wsX0_begin := goodIn_r _ [32, 33, 34, 35, 36, 47, 48, 49, 50, 51, 52, 53, 54, 55, 56, 57, 58] (by decide +kernel) (by decide +kernel)
set_option maxRecDepth 20000 in
theorem gX4_putInForce_X0_begin : GoodIn wsX4_putInForce (wsV RX4 103 RX0 yX0_begin wsX0_begin) := goodIn_app (goodIn_of _ (by decide +kernel)) ggX4_putInForce_X0_begin
theorem dX4_putInForce_0 : decode cX4_putInForce 0 = .ok (.iconst 0, 1) := by decide +kernel
theorem dX4_putInForce_1 : decode cX4_putInForce 1 = .ok (.istore_n 2, 1) := by decide +kernel
theorem dX4_putInForce_2 : decode cX4_putInForce 2 = .ok (.iload_n 2, 1) := by decide +kernel
theorem dX4_putInForce_3 : decode cX4_putInForce 3 = .ok (.aload_n 1, 1) := by decide +kernel
theorem dX4_putInForce_4 : decode cX4_putInForce 4 = .ok (.invokevirtual 92, 3) := by decide +kernel
theorem dX4_putInForce_7 : decode cX4_putInForce 7 = .ok (.if_icmp .ge 53, 3) := by decide +kernel
theorem dX4_putInForce_10 : decode cX4_putInForce 10 = .ok (.iload_n 2, 1) := by decide +kernel
theorem dX4_putInForce_11 : decode cX4_putInForce 11 = .ok (.bipush 40, 2) := by decide +kernel
theorem dX4_putInForce_13 : decode cX4_putInForce 13 = .ok (.if_icmp .ge 47, 3) := by decide +kernel
theorem dX4_putInForce_16 : decode cX4_putInForce 16 = .ok (.aload_n 0, 1) := by decide +kernel
theorem dX4_putInForce_17 : decode cX4_putInForce 17 = .ok (.getfield 9, 3) := by decide +kernel
theorem dX4_putInForce_20 : decode cX4_putInForce 20 = .ok (.iload_n 2, 1) := by decide +kernel
theorem dX4_putInForce_21 : decode cX4_putInForce 21 = .ok (.iaload, 1) := by decide +kernel
theorem dX4_putInForce_22 : decode cX4_putInForce 22 = .ok (.ifCond .eq 32, 3) := by decide +kernel
theorem dX4_putInForce_25 : decode cX4_putInForce 25 = .ok (.aload_n 1, 1) := by decide +kernel
theorem dX4_putInForce_26 : decode cX4_putInForce 26 = .ok (.iload_n 2, 1) := by decide +kernel
theorem dX4_putInForce_27 : decode cX4_putInForce 27 = .ok (.invokevirtual 97, 3) := by decide +kernel
theorem dX4_putInForce_30 : decode cX4_putInForce 30 = .ok (.checkcast 101, 3) := by decide +kernel
theorem dX4_putInForce_33 : decode cX4_putInForce 33 = .ok (.aload_n 0, 1) := by decide +kernel
theorem dX4_putInForce_34 : decode cX4_putInForce 34 = .ok (.getfield 9, 3) := by decide +kernel
theorem dX4_putInForce_37 : decode cX4_putInForce 37 = .ok (.iload_n 2, 1) := by decide +kernel
theorem dX4_putInForce_38 : decode cX4_putInForce 38 = .ok (.iaload, 1) := by decide +kernel
theorem dX4_putInForce_39 : decode cX4_putInForce 39 = .ok (.aload_n 0, 1) := by decide +kernel
theorem dX4_putInForce_40 : decode cX4_putInForce 40 = .ok (.getfield 15, 3) := by decide +kernel
theorem dX4_putInForce_43 : decode cX4_putInForce 43 = .ok (.iload_n 2, 1) := by decide +kernel
theorem dX4_putInForce_44 : decode cX4_putInForce 44 = .ok (.iaload, 1) := by decide +kernel
theorem dX4_putInForce_45 : decode cX4_putInForce 45 = .ok (.aload_n 0, 1) := by decide +kernel
theorem dX4_putInForce_46 : decode cX4_putInForce 46 = .ok (.getfield 18, 3) := by decide +kernel
theorem dX4_putInForce_49 : decode cX4_putInForce 49 = .ok (.iload_n 2, 1) := by decide +kernel
theorem dX4_putInForce_50 : decode cX4_putInForce 50 = .ok (.iaload, 1) := by decide +kernel
theorem dX4_putInForce_51 : decode cX4_putInForce 51 = .ok (.invokevirtual 103, 3) := by decide +kernel
theorem dX4_putInForce_54 : decode cX4_putInForce 54 = .ok (.iinc 2 1, 3) := by decide +kernel
theorem dX4_putInForce_57 : decode cX4_putInForce 57 = .ok (.goto (-55), 3) := by decide +kernel
theorem dX4_putInForce_60 : decode cX4_putInForce 60 = .ok (.return_, 1) := by decide +kernel
theorem dX5_init_0 : decode cX5_init 0 = .ok (.aload_n 0, 1) := by decide +kernel
theorem dX5_init_1 : decode cX5_init 1 = .ok (.invokespecial 3, 3) := by decide +kernel
theorem dX5_init_4 : decode cX5_init 4 = .ok (.aload_n 0, 1) := by decide +kernel
theorem dX5_init_5 : decode cX5_init 5 = .ok (.sipush 300, 3) := by decide +kernel
theorem dX5_init_8 : decode cX5_init 8 = .ok (.newarray .byte, 2) := by decide +kernel
theorem dX5_init_10 : decode cX5_init 10 = .ok (.putfield 9, 3) := by decide +kernel
theorem dX5_init_13 : decode cX5_init 13 = .ok (.return_, 1) := by decide +kernel
theorem dX5_append_0 : decode cX5_append 0 = .ok (.iload_n 3, 1) := by decide +kernel
theorem dX5_append_1 : decode cX5_append 1 = .ok (.iconst 1, 1) := by decide +kernel
theorem dX5_append_2 : decode cX5_append 2 = .ok (.isub, 1) := by decide +kernel
theorem dX5_append_3 : decode cX5_append 3 = .ok (.istore 4, 2) := by decide +kernel
theorem dX5_append_5 : decode cX5_append 5 = .ok (.iload 4, 2) := by decide +kernel
theorem dX5_append_7 : decode cX5_append 7 = .ok (.ifCond .lt 47, 3) := by decide +kernel
theorem dX5_append_10 : decode cX5_append 10 = .ok (.aload_n 0, 1) := by decide +kernel
theorem dX5_append_11 : decode cX5_append 11 = .ok (.getfield 15, 3) := by decide +kernel
theorem dX5_append_14 : decode cX5_append 14 = .ok (.sipush 300, 3) := by decide +kernel
theorem dX5_append_17 : decode cX5_append 17 = .ok (.if_icmp .ge 37, 3) := by decide +kernel
theorem dX5_append_20 : decode cX5_append 20 = .ok (.aload_n 0, 1) := by decide +kernel
theorem dX5_append_21 : decode cX5_append 21 = .ok (.getfield 9, 3) := by decide +kernel
theorem dX5_append_24 : decode cX5_append 24 = .ok (.aload_n 0, 1) := by decide +kernel
theorem dX5_append_25 : decode cX5_append 25 = .ok (.getfield 15, 3) := by decide +kernel
theorem dX5_append_28 : decode cX5_append 28 = .ok (.lload_n 1, 1) := by decide +kernel
theorem dX5_append_29 : decode cX5_append 29 = .ok (.bipush 8, 2) := by decide +kernel
theorem dX5_append_31 : decode cX5_append 31 = .ok (.iload 4, 2) := by decide +kernel
theorem dX5_append_33 : decode cX5_append 33 = .ok (.imul, 1) := by decide +kernel
theorem dX5_append_34 : decode cX5_append 34 = .ok (.lushr, 1) := by decide +kernel
theorem dX5_append_35 : decode cX5_append 35 = .ok (.l2i, 1) := by decide +kernel
theorem dX5_append_36 : decode cX5_append 36 = .ok (.i2b, 1) := by decide +kernel
theorem dX5_append_37 : decode cX5_append 37 = .ok (.bastore, 1) := by decide +kernel
theorem dX5_append_38 : decode cX5_append 38 = .ok (.aload_n 0, 1) := by decide +kernel
theorem dX5_append_39 : decode cX5_append 39 = .ok (.dup, 1) := by decide +kernel
theorem dX5_append_40 : decode cX5_append 40 = .ok (.getfield 15, 3) := by decide +kernel
theorem dX5_append_43 : decode cX5_append 43 = .ok (.iconst 1, 1) := by decide +kernel
theorem dX5_append_44 : decode cX5_append 44 = .ok (.iadd, 1) := by decide +kernel
theorem dX5_append_45 : decode cX5_append 45 = .ok (.putfield 15, 3) := by decide +kernel
theorem dX5_append_48 : decode cX5_append 48 = .ok (.iinc 4 (-1), 3) := by decide +kernel
theorem dX5_append_51 : decode cX5_append 51 = .ok (.goto (-46), 3) := by decide +kernel
theorem dX5_append_54 : decode cX5_append 54 = .ok (.return_, 1) := by decide +kernel
theorem dX5_rewind_0 : decode cX5_rewind 0 = .ok (.aload_n 0, 1) := by decide +kernel
theorem dX5_rewind_1 : decode cX5_rewind 1 = .ok (.iconst 0, 1) := by decide +kernel
theorem dX5_rewind_2 : decode cX5_rewind 2 = .ok (.putfield 19, 3) := by decide +kernel
theorem dX5_rewind_5 : decode cX5_rewind 5 = .ok (.return_, 1) := by decide +kernel
set_option maxRecDepth 20000 in
theorem ggX5_readToken_X5_isBlank : GoodIn wsX5_readToken wsX5_isBlank := goodIn_r _ [9] (by decide +kernel) (by decide +kernel)
set_option maxRecDepth 20000 in
theorem gX5_readToken_X5_isBlank : GoodIn wsX5_readToken (va_wsS RX5 25 yX5_isBlank wsX5_isBlank) := goodIn_app (goodIn_of _ (by decide +kernel)) ggX5_readToken_X5_isBlank
set_option maxRecDepth 20000 in
theorem ggX5_readToken_X5_isLetter : GoodIn wsX5_readToken wsX5_isLetter := goodIn_r _ [12] (by decide +kernel) (by decide +kernel)
set_option maxRecDepth 20000 in
theorem gX5_readToken_X5_isLetter : GoodIn wsX5_readToken (va_wsS RX5 32 yX5_isLetter wsX5_isLetter) := goodIn_app (goodIn_of _ (by decide +kernel)) ggX5_readToken_X5_isLetter
set_option maxRecDepth 20000 in
theorem ggX5_readToken_X5_endOfLetters : GoodIn wsX5_readToken wsX5_endOfLetters := goodIn_r _ [16, 2, 3, 4, 10, 11, 8, 12, 24, 25, 26, 27, 28] (by decide +kernel) (by decide +kernel)
set_option maxRecDepth 20000 in
theorem gX5_readToken_X5_endOfLetters : GoodIn wsX5_readToken (wsV RX5 35 RX5 yX5_endOfLetters wsX5_endOfLetters) := goodIn_app (goodIn_of _ (by decide +kernel)) ggX5_readToken_X5_endOfLetters
set_option maxRecDepth 20000 in
theorem ggX5_readToken_X5_isFigure : GoodIn wsX5_readToken wsX5_isFigure := goodIn_r _ [19] (by decide +kernel) (by decide +kernel)
set_option maxRecDepth 20000 in
theorem gX5_readToken_X5_isFigure : GoodIn wsX5_readToken (va_wsS RX5 39 yX5_isFigure wsX5_isFigure) := goodIn_app (goodIn_of _ (by decide +kernel)) ggX5_readToken_X5_isFigure
set_option maxRecDepth 20000 in
theorem ggX5_readToken_X5_endOfFigures : GoodIn wsX5_readToken wsX5_endOfFigures := goodIn_r _ [23, 2, 3, 4, 17, 18, 8, 19, 24, 25, 26, 27, 28] (by decide +kernel) (by decide +kernel)
set_option maxRecDepth 20000 in
theorem gX5_readToken_X5_endOfFigures : GoodIn wsX5_readToken (wsV RX5 42 RX5 yX5_endOfFigures wsX5_endOfFigures) := goodIn_app (goodIn_of _ (by decide +kernel)) ggX5_readToken_X5_endOfFigures
theorem dX5_readToken_0 : decode cX5_readToken 0 = .ok (.aload_n 0, 1) := by decide +kernel
theorem dX5_readToken_1 : decode cX5_readToken 1 = .ok (.aload_n 0, 1) := by decide +kernel
theorem dX5_readToken_2 : decode cX5_readToken 2 = .ok (.getfield 19, 3) := by decide +kernel
theorem dX5_readToken_5 : decode cX5_readToken 5 = .ok (.putfield 22, 3) := by decide +kernel
theorem dX5_readToken_8 : decode cX5_readToken 8 = .ok (.aload_n 0, 1) := by decide +kernel
theorem dX5_readToken_9 : decode cX5_readToken 9 = .ok (.getfield 22, 3) := by decide +kernel
theorem dX5_readToken_12 : decode cX5_readToken 12 = .ok (.aload_n 0, 1) := by decide +kernel
theorem dX5_readToken_13 : decode cX5_readToken 13 = .ok (.getfield 15, 3) := by decide +kernel
theorem dX5_readToken_16 : decode cX5_readToken 16 = .ok (.if_icmp .ge 31, 3) := by decide +kernel
theorem dX5_readToken_19 : decode cX5_readToken 19 = .ok (.aload_n 0, 1) := by decide +kernel
theorem dX5_readToken_20 : decode cX5_readToken 20 = .ok (.getfield 9, 3) := by decide +kernel
theorem dX5_readToken_23 : decode cX5_readToken 23 = .ok (.aload_n 0, 1) := by decide +kernel
theorem dX5_readToken_24 : decode cX5_readToken 24 = .ok (.getfield 22, 3) := by decide +kernel
theorem dX5_readToken_27 : decode cX5_readToken 27 = .ok (.baload, 1) := by decide +kernel
theorem dX5_readToken_28 : decode cX5_readToken 28 = .ok (.invokestatic 25, 3) := by decide +kernel
theorem dX5_readToken_31 : decode cX5_readToken 31 = .ok (.ifCond .eq 16, 3) := by decide +kernel
theorem dX5_readToken_34 : decode cX5_readToken 34 = .ok (.aload_n 0, 1) := by decide +kernel
theorem dX5_readToken_35 : decode cX5_readToken 35 = .ok (.dup, 1) := by decide +kernel
theorem dX5_readToken_36 : decode cX5_readToken 36 = .ok (.getfield 22, 3) := by decide +kernel
theorem dX5_readToken_39 : decode cX5_readToken 39 = .ok (.iconst 1, 1) := by decide +kernel
theorem dX5_readToken_40 : decode cX5_readToken 40 = .ok (.iadd, 1) := by decide +kernel
theorem dX5_readToken_41 : decode cX5_readToken 41 = .ok (.putfield 22, 3) := by decide +kernel
theorem dX5_readToken_44 : decode cX5_readToken 44 = .ok (.goto (-36), 3) := by decide +kernel
theorem dX5_readToken_47 : decode cX5_readToken 47 = .ok (.aload_n 0, 1) := by decide +kernel
theorem dX5_readToken_48 : decode cX5_readToken 48 = .ok (.getfield 22, 3) := by decide +kernel
theorem dX5_readToken_51 : decode cX5_readToken 51 = .ok (.aload_n 0, 1) := by decide +kernel
theorem dX5_readToken_52 : decode cX5_readToken 52 = .ok (.getfield 15, 3) := by decide +kernel
theorem dX5_readToken_55 : decode cX5_readToken 55 = .ok (.if_icmp .lt 19, 3) := by decide +kernel
theorem dX5_readToken_58 : decode cX5_readToken 58 = .ok (.aload_n 0, 1) := by decide +kernel
theorem dX5_readToken_59 : decode cX5_readToken 59 = .ok (.aload_n 0, 1) := by decide +kernel
theorem dX5_readToken_60 : decode cX5_readToken 60 = .ok (.getfield 22, 3) := by decide +kernel
theorem dX5_readToken_63 : decode cX5_readToken 63 = .ok (.putfield 19, 3) := by decide +kernel
theorem dX5_readToken_66 : decode cX5_readToken 66 = .ok (.aload_n 0, 1) := by decide +kernel
theorem dX5_readToken_67 : decode cX5_readToken 67 = .ok (.iconst 0, 1) := by decide +kernel
theorem dX5_readToken_68 : decode cX5_readToken 68 = .ok (.putfield 29, 3) := by decide +kernel
theorem dX5_readToken_71 : decode cX5_readToken 71 = .ok (.goto 147, 3) := by decide +kernel
theorem dX5_readToken_74 : decode cX5_readToken 74 = .ok (.aload_n 0, 1) := by decide +kernel
theorem dX5_readToken_75 : decode cX5_readToken 75 = .ok (.getfield 9, 3) := by decide +kernel
theorem dX5_readToken_78 : decode cX5_readToken 78 = .ok (.aload_n 0, 1) := by decide +kernel
theorem dX5_readToken_79 : decode cX5_readToken 79 = .ok (.getfield 22, 3) := by decide +kernel
theorem dX5_readToken_82 : decode cX5_readToken 82 = .ok (.baload, 1) := by decide +kernel
theorem dX5_readToken_83 : decode cX5_readToken 83 = .ok (.invokestatic 32, 3) := by decide +kernel
theorem dX5_readToken_86 : decode cX5_readToken 86 = .ok (.ifCond .eq 37, 3) := by decide +kernel
theorem dX5_readToken_89 : decode cX5_readToken 89 = .ok (.aload_n 0, 1) := by decide +kernel
theorem dX5_readToken_90 : decode cX5_readToken 90 = .ok (.aload_n 0, 1) := by decide +kernel
theorem dX5_readToken_91 : decode cX5_readToken 91 = .ok (.invokevirtual 35, 3) := by decide +kernel
theorem dX5_readToken_94 : decode cX5_readToken 94 = .ok (.putfield 19, 3) := by decide +kernel
theorem dX5_readToken_97 : decode cX5_readToken 97 = .ok (.aload_n 0, 1) := by decide +kernel
theorem dX5_readToken_98 : decode cX5_readToken 98 = .ok (.aload_n 0, 1) := by decide +kernel
theorem dX5_readToken_99 : decode cX5_readToken 99 = .ok (.getfield 19, 3) := by decide +kernel
theorem dX5_readToken_102 : decode cX5_readToken 102 = .ok (.aload_n 0, 1) := by decide +kernel
theorem dX5_readToken_103 : decode cX5_readToken 103 = .ok (.getfield 22, 3) := by decide +kernel
theorem dX5_readToken_106 : decode cX5_readToken 106 = .ok (.isub, 1) := by decide +kernel
theorem dX5_readToken_107 : decode cX5_readToken 107 = .ok (.bipush 6, 2) := by decide +kernel
theorem dX5_readToken_109 : decode cX5_readToken 109 = .ok (.if_icmp .gt 7, 3) := by decide +kernel
theorem dX5_readToken_112 : decode cX5_readToken 112 = .ok (.iconst 1, 1) := by decide +kernel
theorem dX5_readToken_113 : decode cX5_readToken 113 = .ok (.goto 4, 3) := by decide +kernel
theorem dX5_readToken_116 : decode cX5_readToken 116 = .ok (.iconst 4, 1) := by decide +kernel
theorem dX5_readToken_117 : decode cX5_readToken 117 = .ok (.putfield 29, 3) := by decide +kernel
theorem dX5_readToken_120 : decode cX5_readToken 120 = .ok (.goto 98, 3) := by decide +kernel
theorem dX5_readToken_123 : decode cX5_readToken 123 = .ok (.aload_n 0, 1) := by decide +kernel
theorem dX5_readToken_124 : decode cX5_readToken 124 = .ok (.getfield 9, 3) := by decide +kernel
theorem dX5_readToken_127 : decode cX5_readToken 127 = .ok (.aload_n 0, 1) := by decide +kernel
theorem dX5_readToken_128 : decode cX5_readToken 128 = .ok (.getfield 22, 3) := by decide +kernel
theorem dX5_readToken_131 : decode cX5_readToken 131 = .ok (.baload, 1) := by decide +kernel
theorem dX5_readToken_132 : decode cX5_readToken 132 = .ok (.invokestatic 39, 3) := by decide +kernel
theorem dX5_readToken_135 : decode cX5_readToken 135 = .ok (.ifCond .eq 36, 3) := by decide +kernel
theorem dX5_readToken_138 : decode cX5_readToken 138 = .ok (.aload_n 0, 1) := by decide +kernel
theorem dX5_readToken_139 : decode cX5_readToken 139 = .ok (.aload_n 0, 1) := by decide +kernel
theorem dX5_readToken_140 : decode cX5_readToken 140 = .ok (.invokevirtual 42, 3) := by decide +kernel
theorem dX5_readToken_143 : decode cX5_readToken 143 = .ok (.putfield 19, 3) := by decide +kernel
theorem dX5_readToken_146 : decode cX5_readToken 146 = .ok (.aload_n 0, 1) := by decide +kernel
theorem dX5_readToken_147 : decode cX5_readToken 147 = .ok (.aload_n 0, 1) := by decide +kernel
theorem dX5_readToken_148 : decode cX5_readToken 148 = .ok (.getfield 19, 3) := by decide +kernel
theorem dX5_readToken_151 : decode cX5_readToken 151 = .ok (.aload_n 0, 1) := by decide +kernel
theorem dX5_readToken_152 : decode cX5_readToken 152 = .ok (.getfield 22, 3) := by decide +kernel
theorem dX5_readToken_155 : decode cX5_readToken 155 = .ok (.isub, 1) := by decide +kernel
theorem dX5_readToken_156 : decode cX5_readToken 156 = .ok (.iconst 4, 1) := by decide +kernel
theorem dX5_readToken_157 : decode cX5_readToken 157 = .ok (.if_icmp .gt 7, 3) := by decide +kernel
theorem dX5_readToken_160 : decode cX5_readToken 160 = .ok (.iconst 2, 1) := by decide +kernel
theorem dX5_readToken_161 : decode cX5_readToken 161 = .ok (.goto 4, 3) := by decide +kernel
theorem dX5_readToken_164 : decode cX5_readToken 164 = .ok (.iconst 4, 1) := by decide +kernel
theorem dX5_readToken_165 : decode cX5_readToken 165 = .ok (.putfield 29, 3) := by decide +kernel
theorem dX5_readToken_168 : decode cX5_readToken 168 = .ok (.goto 50, 3) := by decide +kernel
theorem dX5_readToken_171 : decode cX5_readToken 171 = .ok (.aload_n 0, 1) := by decide +kernel
theorem dX5_readToken_172 : decode cX5_readToken 172 = .ok (.aload_n 0, 1) := by decide +kernel
theorem dX5_readToken_173 : decode cX5_readToken 173 = .ok (.getfield 22, 3) := by decide +kernel
theorem dX5_readToken_176 : decode cX5_readToken 176 = .ok (.iconst 1, 1) := by decide +kernel
theorem dX5_readToken_177 : decode cX5_readToken 177 = .ok (.iadd, 1) := by decide +kernel
theorem dX5_readToken_178 : decode cX5_readToken 178 = .ok (.putfield 19, 3) := by decide +kernel
theorem dX5_readToken_181 : decode cX5_readToken 181 = .ok (.aload_n 0, 1) := by decide +kernel
theorem dX5_readToken_182 : decode cX5_readToken 182 = .ok (.aload_n 0, 1) := by decide +kernel
theorem dX5_readToken_183 : decode cX5_readToken 183 = .ok (.getfield 9, 3) := by decide +kernel
theorem dX5_readToken_186 : decode cX5_readToken 186 = .ok (.aload_n 0, 1) := by decide +kernel
theorem dX5_readToken_187 : decode cX5_readToken 187 = .ok (.getfield 22, 3) := by decide +kernel
theorem dX5_readToken_190 : decode cX5_readToken 190 = .ok (.baload, 1) := by decide +kernel
theorem dX5_readToken_191 : decode cX5_readToken 191 = .ok (.bipush 59, 2) := by decide +kernel
theorem dX5_readToken_193 : decode cX5_readToken 193 = .ok (.if_icmp .eq 17, 3) := by decide +kernel
theorem dX5_readToken_196 : decode cX5_readToken 196 = .ok (.aload_n 0, 1) := by decide +kernel
theorem dX5_readToken_197 : decode cX5_readToken 197 = .ok (.getfield 9, 3) := by decide +kernel
theorem dX5_readToken_200 : decode cX5_readToken 200 = .ok (.aload_n 0, 1) := by decide +kernel
theorem dX5_readToken_201 : decode cX5_readToken 201 = .ok (.getfield 22, 3) := by decide +kernel
theorem dX5_readToken_204 : decode cX5_readToken 204 = .ok (.baload, 1) := by decide +kernel
theorem dX5_readToken_205 : decode cX5_readToken 205 = .ok (.bipush 60, 2) := by decide +kernel
theorem dX5_readToken_207 : decode cX5_readToken 207 = .ok (.if_icmp .ne 7, 3) := by decide +kernel
theorem dX5_readToken_210 : decode cX5_readToken 210 = .ok (.iconst 3, 1) := by decide +kernel
theorem dX5_readToken_211 : decode cX5_readToken 211 = .ok (.goto 4, 3) := by decide +kernel
theorem dX5_readToken_214 : decode cX5_readToken 214 = .ok (.iconst 4, 1) := by decide +kernel
theorem dX5_readToken_215 : decode cX5_readToken 215 = .ok (.putfield 29, 3) := by decide +kernel
theorem dX5_readToken_218 : decode cX5_readToken 218 = .ok (.return_, 1) := by decide +kernel
set_option maxRecDepth 20000 in
theorem ggX5_endOfLetters_X5_isLetter : GoodIn wsX5_endOfLetters wsX5_isLetter := goodIn_r _ [7] (by decide +kernel) (by decide +kernel)
set_option maxRecDepth 20000 in
theorem gX5_endOfLetters_X5_isLetter : GoodIn wsX5_endOfLetters (va_wsS RX5 32 yX5_isLetter wsX5_isLetter) := goodIn_app (goodIn_of _ (by decide +kernel)) ggX5_endOfLetters_X5_isLetter
theorem dX5_endOfLetters_0 : decode cX5_endOfLetters 0 = .ok (.aload_n 0, 1) := by decide +kernel
theorem dX5_endOfLetters_1 : decode cX5_endOfLetters 1 = .ok (.getfield 22, 3) := by decide +kernel
theorem dX5_endOfLetters_4 : decode cX5_endOfLetters 4 = .ok (.istore_n 1, 1) := by decide +kernel
theorem dX5_endOfLetters_5 : decode cX5_endOfLetters 5 = .ok (.iload_n 1, 1) := by decide +kernel
theorem dX5_endOfLetters_6 : decode cX5_endOfLetters 6 = .ok (.aload_n 0, 1) := by decide +kernel
theorem dX5_endOfLetters_7 : decode cX5_endOfLetters 7 = .ok (.getfield 15, 3) := by decide +kernel
theorem dX5_endOfLetters_10 : decode cX5_endOfLetters 10 = .ok (.if_icmp .ge 21, 3) := by decide +kernel
theorem dX5_endOfLetters_13 : decode cX5_endOfLetters 13 = .ok (.aload_n 0, 1) := by decide +kernel
theorem dX5_endOfLetters_14 : decode cX5_endOfLetters 14 = .ok (.getfield 9, 3) := by decide +kernel
theorem dX5_endOfLetters_17 : decode cX5_endOfLetters 17 = .ok (.iload_n 1, 1) := by decide +kernel
theorem dX5_endOfLetters_18 : decode cX5_endOfLetters 18 = .ok (.baload, 1) := by decide +kernel
theorem dX5_endOfLetters_19 : decode cX5_endOfLetters 19 = .ok (.invokestatic 32, 3) := by decide +kernel
theorem dX5_endOfLetters_22 : decode cX5_endOfLetters 22 = .ok (.ifCond .eq 9, 3) := by decide +kernel
theorem dX5_endOfLetters_25 : decode cX5_endOfLetters 25 = .ok (.iinc 1 1, 3) := by decide +kernel
theorem dX5_endOfLetters_28 : decode cX5_endOfLetters 28 = .ok (.goto (-23), 3) := by decide +kernel
theorem dX5_endOfLetters_31 : decode cX5_endOfLetters 31 = .ok (.iload_n 1, 1) := by decide +kernel
theorem dX5_endOfLetters_32 : decode cX5_endOfLetters 32 = .ok (.ireturn, 1) := by decide +kernel
set_option maxRecDepth 20000 in
theorem ggX5_endOfFigures_X5_isFigure : GoodIn wsX5_endOfFigures wsX5_isFigure := goodIn_r _ [7] (by decide +kernel) (by decide +kernel)
set_option maxRecDepth 20000 in
theorem gX5_endOfFigures_X5_isFigure : GoodIn wsX5_endOfFigures (va_wsS RX5 39 yX5_isFigure wsX5_isFigure) := goodIn_app (goodIn_of _ (by decide +kernel)) ggX5_endOfFigures_X5_isFigure
theorem dX5_endOfFigures_0 : decode cX5_endOfFigures 0 = .ok (.aload_n 0, 1) := by decide +kernel
theorem dX5_endOfFigures_1 : decode cX5_endOfFigures 1 = .ok (.getfield 22, 3) := by decide +kernel
theorem dX5_endOfFigures_4 : decode cX5_endOfFigures 4 = .ok (.istore_n 1, 1) := by decide +kernel
theorem dX5_endOfFigures_5 : decode cX5_endOfFigures 5 = .ok (.iload_n 1, 1) := by decide +kernel
theorem dX5_endOfFigures_6 : decode cX5_endOfFigures 6 = .ok (.aload_n 0, 1) := by decide +kernel
theorem dX5_endOfFigures_7 : decode cX5_endOfFigures 7 = .ok (.getfield 15, 3) := by decide +kernel
theorem dX5_endOfFigures_10 : decode cX5_endOfFigures 10 = .ok (.if_icmp .ge 21, 3) := by decide +kernel
theorem dX5_endOfFigures_13 : decode cX5_endOfFigures 13 = .ok (.aload_n 0, 1) := by decide +kernel
theorem dX5_endOfFigures_14 : decode cX5_endOfFigures 14 = .ok (.getfield 9, 3) := by decide +kernel
theorem dX5_endOfFigures_17 : decode cX5_endOfFigures 17 = .ok (.iload_n 1, 1) := by decide +kernel
theorem dX5_endOfFigures_18 : decode cX5_endOfFigures 18 = .ok (.baload, 1) := by decide +kernel
theorem dX5_endOfFigures_19 : decode cX5_endOfFigures 19 = .ok (.invokestatic 39, 3) := by decide +kernel
theorem dX5_endOfFigures_22 : decode cX5_endOfFigures 22 = .ok (.ifCond .eq 9, 3) := by decide +kernel
theorem dX5_endOfFigures_25 : decode cX5_endOfFigures 25 = .ok (.iinc 1 1, 3) := by decide +kernel
theorem dX5_endOfFigures_28 : decode cX5_endOfFigures 28 = .ok (.goto (-23), 3) := by decide +kernel
theorem dX5_endOfFigures_31 : decode cX5_endOfFigures 31 = .ok (.iload_n 1, 1) := by decide +kernel
theorem dX5_endOfFigures_32 : decode cX5_endOfFigures 32 = .ok (.ireturn, 1) := by decide +kernel
set_option maxRecDepth 20000 in
theorem ggX5_isName_J0_length_8abf5 : GoodIn wsX5_isName wsJ0_length_8abf5 := goodIn_r _ [9, 10, 11, 12, 13, 8, 14, 15, 16] (by decide +kernel) (by decide +kernel)
set_option maxRecDepth 20000 in
theorem gX5_isName_J0_length_8abf5 : GoodIn wsX5_isName (wsV RX5 45 RJ0 yJ0_length_8abf5 wsJ0_length_8abf5) := goodIn_app (goodIn_of _ (by decide +kernel)) ggX5_isName_J0_length_8abf5
set_option maxRecDepth 20000 in
theorem ggX5_isName_J0_charAt_5068e : GoodIn wsX5_isName wsJ0_charAt_5068e := goodIn_r _ [20, 10, 21, 22, 23, 8, 24, 15, 16, 25, 26, 27, 28, 29, 30, 31, 32, 33, 34, 35, 36, 37, 38, 39, 40, 41, 42, 43, 44, 45, 46, 47, 48, 49, 50, 51, 52, 53] (by decide +kernel) (by decide +kernel)
set_option maxRecDepth 20000 in
theorem gX5_isName_J0_charAt_5068e : GoodIn wsX5_isName (wsV RX5 49 RJ0 yJ0_charAt_5068e wsJ0_charAt_5068e) := goodIn_app (goodIn_of _ (by decide +kernel)) ggX5_isName_J0_charAt_5068e
theorem dX5_isName_0 : decode cX5_isName 0 = .ok (.aload_n 0, 1) := by decide +kernel
theorem dX5_isName_1 : decode cX5_isName 1 = .ok (.getfield 29, 3) := by decide +kernel
theorem dX5_isName_4 : decode cX5_isName 4 = .ok (.iconst 1, 1) := by decide +kernel
theorem dX5_isName_5 : decode cX5_isName 5 = .ok (.if_icmp .ne 19, 3) := by decide +kernel
theorem dX5_isName_8 : decode cX5_isName 8 = .ok (.aload_n 0, 1) := by decide +kernel
theorem dX5_isName_9 : decode cX5_isName 9 = .ok (.getfield 19, 3) := by decide +kernel
theorem dX5_isName_12 : decode cX5_isName 12 = .ok (.aload_n 0, 1) := by decide +kernel
theorem dX5_isName_13 : decode cX5_isName 13 = .ok (.getfield 22, 3) := by decide +kernel
theorem dX5_isName_16 : decode cX5_isName 16 = .ok (.isub, 1) := by decide +kernel
theorem dX5_isName_17 : decode cX5_isName 17 = .ok (.aload_n 1, 1) := by decide +kernel
theorem dX5_isName_18 : decode cX5_isName 18 = .ok (.invokevirtual 45, 3) := by decide +kernel
theorem dX5_isName_21 : decode cX5_isName 21 = .ok (.if_icmp .eq 5, 3) := by decide +kernel
theorem dX5_isName_24 : decode cX5_isName 24 = .ok (.iconst 0, 1) := by decide +kernel
theorem dX5_isName_25 : decode cX5_isName 25 = .ok (.ireturn, 1) := by decide +kernel
theorem dX5_isName_26 : decode cX5_isName 26 = .ok (.iconst 0, 1) := by decide +kernel
theorem dX5_isName_27 : decode cX5_isName 27 = .ok (.istore_n 2, 1) := by decide +kernel
theorem dX5_isName_28 : decode cX5_isName 28 = .ok (.iload_n 2, 1) := by decide +kernel
theorem dX5_isName_29 : decode cX5_isName 29 = .ok (.aload_n 1, 1) := by decide +kernel
theorem dX5_isName_30 : decode cX5_isName 30 = .ok (.invokevirtual 45, 3) := by decide +kernel
theorem dX5_isName_33 : decode cX5_isName 33 = .ok (.if_icmp .ge 30, 3) := by decide +kernel
theorem dX5_isName_36 : decode cX5_isName 36 = .ok (.aload_n 0, 1) := by decide +kernel
theorem dX5_isName_37 : decode cX5_isName 37 = .ok (.getfield 9, 3) := by decide +kernel
theorem dX5_isName_40 : decode cX5_isName 40 = .ok (.aload_n 0, 1) := by decide +kernel
theorem dX5_isName_41 : decode cX5_isName 41 = .ok (.getfield 22, 3) := by decide +kernel
theorem dX5_isName_44 : decode cX5_isName 44 = .ok (.iload_n 2, 1) := by decide +kernel
theorem dX5_isName_45 : decode cX5_isName 45 = .ok (.iadd, 1) := by decide +kernel
theorem dX5_isName_46 : decode cX5_isName 46 = .ok (.baload, 1) := by decide +kernel
theorem dX5_isName_47 : decode cX5_isName 47 = .ok (.aload_n 1, 1) := by decide +kernel
theorem dX5_isName_48 : decode cX5_isName 48 = .ok (.iload_n 2, 1) := by decide +kernel
theorem dX5_isName_49 : decode cX5_isName 49 = .ok (.invokevirtual 49, 3) := by decide +kernel
theorem dX5_isName_52 : decode cX5_isName 52 = .ok (.if_icmp .eq 5, 3) := by decide +kernel
theorem dX5_isName_55 : decode cX5_isName 55 = .ok (.iconst 0, 1) := by decide +kernel
theorem dX5_isName_56 : decode cX5_isName 56 = .ok (.ireturn, 1) := by decide +kernel
theorem dX5_isName_57 : decode cX5_isName 57 = .ok (.iinc 2 1, 3) := by decide +kernel
theorem dX5_isName_60 : decode cX5_isName 60 = .ok (.goto (-32), 3) := by decide +kernel
theorem dX5_isName_63 : decode cX5_isName 63 = .ok (.iconst 1, 1) := by decide +kernel
theorem dX5_isName_64 : decode cX5_isName 64 = .ok (.ireturn, 1) := by decide +kernel
theorem dX5_isSign_0 : decode cX5_isSign 0 = .ok (.aload_n 0, 1) := by decide +kernel
theorem dX5_isSign_1 : decode cX5_isSign 1 = .ok (.getfield 29, 3) := by decide +kernel
theorem dX5_isSign_4 : decode cX5_isSign 4 = .ok (.iconst 3, 1) := by decide +kernel
theorem dX5_isSign_5 : decode cX5_isSign 5 = .ok (.if_icmp .ne 20, 3) := by decide +kernel
theorem dX5_isSign_8 : decode cX5_isSign 8 = .ok (.aload_n 0, 1) := by decide +kernel
theorem dX5_isSign_9 : decode cX5_isSign 9 = .ok (.getfield 9, 3) := by decide +kernel
theorem dX5_isSign_12 : decode cX5_isSign 12 = .ok (.aload_n 0, 1) := by decide +kernel
theorem dX5_isSign_13 : decode cX5_isSign 13 = .ok (.getfield 22, 3) := by decide +kernel
theorem dX5_isSign_16 : decode cX5_isSign 16 = .ok (.baload, 1) := by decide +kernel
theorem dX5_isSign_17 : decode cX5_isSign 17 = .ok (.iload_n 1, 1) := by decide +kernel
theorem dX5_isSign_18 : decode cX5_isSign 18 = .ok (.if_icmp .ne 7, 3) := by decide +kernel
theorem dX5_isSign_21 : decode cX5_isSign 21 = .ok (.iconst 1, 1) := by decide +kernel
theorem dX5_isSign_22 : decode cX5_isSign 22 = .ok (.goto 4, 3) := by decide +kernel
theorem dX5_isSign_25 : decode cX5_isSign 25 = .ok (.iconst 0, 1) := by decide +kernel
theorem dX5_isSign_26 : decode cX5_isSign 26 = .ok (.ireturn, 1) := by decide +kernel
theorem dX5_numberValue_0 : decode cX5_numberValue 0 = .ok (.iconst 0, 1) := by decide +kernel
theorem dX5_numberValue_1 : decode cX5_numberValue 1 = .ok (.istore_n 1, 1) := by decide +kernel
theorem dX5_numberValue_2 : decode cX5_numberValue 2 = .ok (.aload_n 0, 1) := by decide +kernel
theorem dX5_numberValue_3 : decode cX5_numberValue 3 = .ok (.getfield 22, 3) := by decide +kernel
theorem dX5_numberValue_6 : decode cX5_numberValue 6 = .ok (.istore_n 2, 1) := by decide +kernel
theorem dX5_numberValue_7 : decode cX5_numberValue 7 = .ok (.iload_n 2, 1) := by decide +kernel
theorem dX5_numberValue_8 : decode cX5_numberValue 8 = .ok (.aload_n 0, 1) := by decide +kernel
theorem dX5_numberValue_9 : decode cX5_numberValue 9 = .ok (.getfield 19, 3) := by decide +kernel
theorem dX5_numberValue_12 : decode cX5_numberValue 12 = .ok (.if_icmp .ge 24, 3) := by decide +kernel
theorem dX5_numberValue_15 : decode cX5_numberValue 15 = .ok (.bipush 10, 2) := by decide +kernel
theorem dX5_numberValue_17 : decode cX5_numberValue 17 = .ok (.iload_n 1, 1) := by decide +kernel
theorem dX5_numberValue_18 : decode cX5_numberValue 18 = .ok (.imul, 1) := by decide +kernel
theorem dX5_numberValue_19 : decode cX5_numberValue 19 = .ok (.aload_n 0, 1) := by decide +kernel
theorem dX5_numberValue_20 : decode cX5_numberValue 20 = .ok (.getfield 9, 3) := by decide +kernel
theorem dX5_numberValue_23 : decode cX5_numberValue 23 = .ok (.iload_n 2, 1) := by decide +kernel
theorem dX5_numberValue_24 : decode cX5_numberValue 24 = .ok (.baload, 1) := by decide +kernel
theorem dX5_numberValue_25 : decode cX5_numberValue 25 = .ok (.iadd, 1) := by decide +kernel
theorem dX5_numberValue_26 : decode cX5_numberValue 26 = .ok (.bipush 48, 2) := by decide +kernel
theorem dX5_numberValue_28 : decode cX5_numberValue 28 = .ok (.isub, 1) := by decide +kernel
theorem dX5_numberValue_29 : decode cX5_numberValue 29 = .ok (.istore_n 1, 1) := by decide +kernel
theorem dX5_numberValue_30 : decode cX5_numberValue 30 = .ok (.iinc 2 1, 3) := by decide +kernel
theorem dX5_numberValue_33 : decode cX5_numberValue 33 = .ok (.goto (-26), 3) := by decide +kernel
theorem dX5_numberValue_36 : decode cX5_numberValue 36 = .ok (.iload_n 1, 1) := by decide +kernel
theorem dX5_numberValue_37 : decode cX5_numberValue 37 = .ok (.ireturn, 1) := by decide +kernel
theorem dX5_isBlank_0 : decode cX5_isBlank 0 = .ok (.iload_n 0, 1) := by decide +kernel
theorem dX5_isBlank_1 : decode cX5_isBlank 1 = .ok (.bipush 32, 2) := by decide +kernel
theorem dX5_isBlank_3 : decode cX5_isBlank 3 = .ok (.if_icmp .eq 9, 3) := by decide +kernel
theorem dX5_isBlank_6 : decode cX5_isBlank 6 = .ok (.iload_n 0, 1) := by decide +kernel
theorem dX5_isBlank_7 : decode cX5_isBlank 7 = .ok (.bipush 10, 2) := by decide +kernel
theorem dX5_isBlank_9 : decode cX5_isBlank 9 = .ok (.if_icmp .ne 7, 3) := by decide +kernel
theorem dX5_isBlank_12 : decode cX5_isBlank 12 = .ok (.iconst 1, 1) := by decide +kernel
theorem dX5_isBlank_13 : decode cX5_isBlank 13 = .ok (.goto 4, 3) := by decide +kernel
theorem dX5_isBlank_16 : decode cX5_isBlank 16 = .ok (.iconst 0, 1) := by decide +kernel
theorem dX5_isBlank_17 : decode cX5_isBlank 17 = .ok (.ireturn, 1) := by decide +kernel
theorem dX5_isLetter_0 : decode cX5_isLetter 0 = .ok (.iload_n 0, 1) := by decide +kernel
theorem dX5_isLetter_1 : decode cX5_isLetter 1 = .ok (.bipush 97, 2) := by decide +kernel
theorem dX5_isLetter_3 : decode cX5_isLetter 3 = .ok (.if_icmp .lt 13, 3) := by decide +kernel
theorem dX5_isLetter_6 : decode cX5_isLetter 6 = .ok (.iload_n 0, 1) := by decide +kernel
theorem dX5_isLetter_7 : decode cX5_isLetter 7 = .ok (.bipush 122, 2) := by decide +kernel
theorem dX5_isLetter_9 : decode cX5_isLetter 9 = .ok (.if_icmp .gt 7, 3) := by decide +kernel
theorem dX5_isLetter_12 : decode cX5_isLetter 12 = .ok (.iconst 1, 1) := by decide +kernel
theorem dX5_isLetter_13 : decode cX5_isLetter 13 = .ok (.goto 4, 3) := by decide +kernel
theorem dX5_isLetter_16 : decode cX5_isLetter 16 = .ok (.iconst 0, 1) := by decide +kernel
theorem dX5_isLetter_17 : decode cX5_isLetter 17 = .ok (.ireturn, 1) := by decide +kernel
theorem dX5_isFigure_0 : decode cX5_isFigure 0 = .ok (.iload_n 0, 1) := by decide +kernel
theorem dX5_isFigure_1 : decode cX5_isFigure 1 = .ok (.bipush 48, 2) := by decide +kernel
theorem dX5_isFigure_3 : decode cX5_isFigure 3 = .ok (.if_icmp .lt 13, 3) := by decide +kernel
theorem dX5_isFigure_6 : decode cX5_isFigure 6 = .ok (.iload_n 0, 1) := by decide +kernel
theorem dX5_isFigure_7 : decode cX5_isFigure 7 = .ok (.bipush 57, 2) := by decide +kernel
theorem dX5_isFigure_9 : decode cX5_isFigure 9 = .ok (.if_icmp .gt 7, 3) := by decide +kernel
theorem dX5_isFigure_12 : decode cX5_isFigure 12 = .ok (.iconst 1, 1) := by decide +kernel
theorem dX5_isFigure_13 : decode cX5_isFigure 13 = .ok (.goto 4, 3) := by decide +kernel
theorem dX5_isFigure_16 : decode cX5_isFigure 16 = .ok (.iconst 0, 1) := by decide +kernel
theorem dX5_isFigure_17 : decode cX5_isFigure 17 = .ok (.ireturn, 1) := by decide +kernel
end
section
set_option maxRecDepth 20000 in
theorem ggX7_init_Jx4a65c_init_da8c8 : GoodIn wsX7_init wsJx4a65c_init_da8c8 := goodIn_r _ [31, 32, 33, 34, 35, 36, 37, 38, 39, 40, 41, 42, 43, 2, 3, 71, 72, 73] (by decide +kernel) (by decide +kernel)
set_option maxRecDepth 20000 in
theorem gX7_init_Jx4a65c_init_da8c8 : GoodIn wsX7_init (wsJx4a65c_init_da8c8) := ggX7_init_Jx4a65c_init_da8c8
set_option maxRecDepth 20000 in
theorem ggX7_init_X2_init : GoodIn wsX7_init wsX2_init := goodIn_r _ [45, 46, 2, 3] (by decide +kernel) (by decide +kernel)
set_option maxRecDepth 20000 in
theorem gX7_init_X2_init_n21 : GoodIn wsX7_init (wsX2_init) := ggX7_init_X2_init
set_option maxRecDepth 20000 in
theorem ggX7_init_X1_init : GoodIn wsX7_init wsX1_init := goodIn_r _ [48, 49, 2, 3, 50, 51, 52, 53, 87, 88, 89, 90] (by decide +kernel) (by decide +kernel)
set_option maxRecDepth 20000 in
theorem gX7_init_X1_init_n28 : GoodIn wsX7_init (wsX1_init) := ggX7_init_X1_init
set_option maxRecDepth 20000 in
theorem ggX7_init_X5_init : GoodIn wsX7_init wsX5_init := goodIn_r _ [55, 56, 2, 3, 57, 58, 91, 92, 93, 94, 95] (by decide +kernel) (by decide +kernel)
set_option maxRecDepth 20000 in
theorem gX7_init_X5_init_n35 : GoodIn wsX7_init (wsX5_init) := ggX7_init_X5_init
set_option maxRecDepth 20000 in
theorem ggX7_init_X4_init : GoodIn wsX7_init wsX4_init := goodIn_r _ [61, 62, 2, 3, 50, 63, 64, 65, 66, 96, 97, 98, 99, 100, 101, 102] (by decide +kernel) (by decide +kernel)
set_option maxRecDepth 20000 in
theorem gX7_init_X4_init : GoodIn wsX7_init (wsX4_init) := ggX7_init_X4_init
set_option maxRecDepth 20000 in
theorem ggX7_init_X6_init : GoodIn wsX7_init wsX6_init := goodIn_r _ [68, 69, 2, 3, 50, 70, 103, 104] (by decide +kernel) (by decide +kernel)
set_option maxRecDepth 20000 in
theorem gX7_init_X6_init_n51 : GoodIn wsX7_init (wsX6_init) := ggX7_init_X6_init
theorem dX7_init_0 : decode cX7_init 0 = .ok (.aload_n 0, 1) := by decide +kernel
theorem dX7_init_1 : decode cX7_init 1 = .ok (.invokespecial 1, 3) := by decide +kernel
theorem dX7_init_4 : decode cX7_init 4 = .ok (.aload_n 0, 1) := by decide +kernel
theorem dX7_init_5 : decode cX7_init 5 = .ok (.new 7, 3) := by decide +kernel
theorem dX7_init_8 : decode cX7_init 8 = .ok (.dup, 1) := by decide +kernel
theorem dX7_init_9 : decode cX7_init 9 = .ok (.invokespecial 9, 3) := by decide +kernel
theorem dX7_init_12 : decode cX7_init 12 = .ok (.putfield 10, 3) := by decide +kernel
theorem dX7_init_15 : decode cX7_init 15 = .ok (.aload_n 0, 1) := by decide +kernel
theorem dX7_init_16 : decode cX7_init 16 = .ok (.new 7, 3) := by decide +kernel
theorem dX7_init_19 : decode cX7_init 19 = .ok (.dup, 1) := by decide +kernel
theorem dX7_init_20 : decode cX7_init 20 = .ok (.invokespecial 9, 3) := by decide +kernel
theorem dX7_init_23 : decode cX7_init 23 = .ok (.putfield 16, 3) := by decide +kernel
theorem dX7_init_26 : decode cX7_init 26 = .ok (.aload_n 0, 1) := by decide +kernel
theorem dX7_init_27 : decode cX7_init 27 = .ok (.new 19, 3) := by decide +kernel
theorem dX7_init_30 : decode cX7_init 30 = .ok (.dup, 1) := by decide +kernel
theorem dX7_init_31 : decode cX7_init 31 = .ok (.invokespecial 21, 3) := by decide +kernel
theorem dX7_init_34 : decode cX7_init 34 = .ok (.putfield 22, 3) := by decide +kernel
theorem dX7_init_37 : decode cX7_init 37 = .ok (.aload_n 0, 1) := by decide +kernel
theorem dX7_init_38 : decode cX7_init 38 = .ok (.new 26, 3) := by decide +kernel
theorem dX7_init_41 : decode cX7_init 41 = .ok (.dup, 1) := by decide +kernel
theorem dX7_init_42 : decode cX7_init 42 = .ok (.invokespecial 28, 3) := by decide +kernel
theorem dX7_init_45 : decode cX7_init 45 = .ok (.putfield 29, 3) := by decide +kernel
theorem dX7_init_48 : decode cX7_init 48 = .ok (.aload_n 0, 1) := by decide +kernel
theorem dX7_init_49 : decode cX7_init 49 = .ok (.new 33, 3) := by decide +kernel
theorem dX7_init_52 : decode cX7_init 52 = .ok (.dup, 1) := by decide +kernel
theorem dX7_init_53 : decode cX7_init 53 = .ok (.invokespecial 35, 3) := by decide +kernel
theorem dX7_init_56 : decode cX7_init 56 = .ok (.putfield 36, 3) := by decide +kernel
theorem dX7_init_59 : decode cX7_init 59 = .ok (.aload_n 0, 1) := by decide +kernel
theorem dX7_init_60 : decode cX7_init 60 = .ok (.new 40, 3) := by decide +kernel
theorem dX7_init_63 : decode cX7_init 63 = .ok (.dup, 1) := by decide +kernel
theorem dX7_init_64 : decode cX7_init 64 = .ok (.aload_n 0, 1) := by decide +kernel
theorem dX7_init_65 : decode cX7_init 65 = .ok (.getfield 36, 3) := by decide +kernel
theorem dX7_init_68 : decode cX7_init 68 = .ok (.invokespecial 42, 3) := by decide +kernel
theorem dX7_init_71 : decode cX7_init 71 = .ok (.putfield 45, 3) := by decide +kernel
theorem dX7_init_74 : decode cX7_init 74 = .ok (.aload_n 0, 1) := by decide +kernel
theorem dX7_init_75 : decode cX7_init 75 = .ok (.new 49, 3) := by decide +kernel
theorem dX7_init_78 : decode cX7_init 78 = .ok (.dup, 1) := by decide +kernel
theorem dX7_init_79 : decode cX7_init 79 = .ok (.invokespecial 51, 3) := by decide +kernel
theorem dX7_init_82 : decode cX7_init 82 = .ok (.putfield 52, 3) := by decide +kernel
theorem dX7_init_85 : decode cX7_init 85 = .ok (.return_, 1) := by decide +kernel
set_option maxRecDepth 20000 in
theorem ggX7_pipe_X7_pipeAt : GoodIn wsX7_pipe wsX7_pipeAt := goodIn_r _ [12, 3, 13, 14, 15, 16, 17, 18, 19, 20, 21, 11, 22, 23, 24, 25, 26, 27, 28, 29, 30, 31, 32, 33, 34, 35, 36, 37, 38, 39, 104, 105, 106, 107, 108, 109, 110, 111, 118, 119, 120] (by decide +kernel) (by decide +kernel)
set_option maxRecDepth 20000 in
theorem gX7_pipe_X7_pipeAt : GoodIn wsX7_pipe (wsV RX7 56 RX7 yX7_pipeAt wsX7_pipeAt) := goodIn_app (goodIn_of _ (by decide +kernel)) ggX7_pipe_X7_pipeAt
set_option maxRecDepth 20000 in
theorem ggX7_pipe_X7_within : GoodIn wsX7_pipe wsX7_within := goodIn_r _ [22] (by decide +kernel) (by decide +kernel)
set_option maxRecDepth 20000 in
theorem gX7_pipe_X7_within : GoodIn wsX7_pipe (va_wsS RX7 62 yX7_within wsX7_within) := goodIn_app (goodIn_of _ (by decide +kernel)) ggX7_pipe_X7_within
set_option maxRecDepth 20000 in
theorem ggX7_pipe_Jx4a65c_size_8abf5 : GoodIn wsX7_pipe wsJx4a65c_size_8abf5 := goodIn_r _ [18, 19, 118, 119, 120] (by decide +kernel) (by decide +kernel)
set_option maxRecDepth 20000 in
theorem gX7_pipe_Jx4a65c_size_8abf5 : GoodIn wsX7_pipe (wsV RX7 66 RJx4a65c yJx4a65c_size_8abf5 wsJx4a65c_size_8abf5) := goodIn_app (goodIn_of _ (by decide +kernel)) ggX7_pipe_Jx4a65c_size_8abf5
set_option maxRecDepth 20000 in
theorem ggX7_pipe_X3_init : GoodIn wsX7_pipe wsX3_init := goodIn_r _ [42, 43, 44, 45, 46, 47, 48, 49, 50, 112, 113, 114, 115, 116, 117] (by decide +kernel) (by decide +kernel)
set_option maxRecDepth 20000 in
theorem gX7_pipe_X3_init : GoodIn wsX7_pipe (wsX3_init) := ggX7_pipe_X3_init
set_option maxRecDepth 20000 in
theorem ggX7_pipe_Jx4a65c_add_9ea2d : GoodIn wsX7_pipe wsJx4a65c_add_9ea2d := goodIn_r _ [54, 55, 56, 39, 19, 57, 58, 59, 17, 60, 61, 62, 63, 64, 65, 66, 67, 68, 69, 70, 71, 72, 73, 74, 75, 76, 77, 78, 79, 80, 81, 82, 83, 84, 85, 86, 87, 88, 89, 90, 91, 92, 93, 94, 95, 96, 97, 98, 99, 100, 101, 102, 103, 118, 119, 120] (by decide +kernel) (by decide +kernel)
set_option maxRecDepth 20000 in
theorem gX7_pipe_Jx4a65c_add_9ea2d : GoodIn wsX7_pipe (wsV RX7 76 RJx4a65c yJx4a65c_add_9ea2d wsJx4a65c_add_9ea2d) := goodIn_app (goodIn_of _ (by decide +kernel)) ggX7_pipe_Jx4a65c_add_9ea2d
theorem dX7_pipe_0 : decode cX7_pipe 0 = .ok (.aload_n 0, 1) := by decide +kernel
theorem dX7_pipe_1 : decode cX7_pipe 1 = .ok (.iload_n 1, 1) := by decide +kernel
theorem dX7_pipe_2 : decode cX7_pipe 2 = .ok (.invokevirtual 56, 3) := by decide +kernel
theorem dX7_pipe_5 : decode cX7_pipe 5 = .ok (.astore 4, 2) := by decide +kernel
theorem dX7_pipe_7 : decode cX7_pipe 7 = .ok (.aload 4, 2) := by decide +kernel
theorem dX7_pipe_9 : decode cX7_pipe 9 = .ok (.ifnonnull 12, 3) := by decide +kernel
theorem dX7_pipe_12 : decode cX7_pipe 12 = .ok (.iload_n 1, 1) := by decide +kernel
theorem dX7_pipe_13 : decode cX7_pipe 13 = .ok (.ldc 60, 2) := by decide +kernel
theorem dX7_pipe_15 : decode cX7_pipe 15 = .ok (.if_icmp .eq 6, 3) := by decide +kernel
theorem dX7_pipe_18 : decode cX7_pipe 18 = .ok (.ldc 61, 2) := by decide +kernel
theorem dX7_pipe_20 : decode cX7_pipe 20 = .ok (.ireturn, 1) := by decide +kernel
theorem dX7_pipe_21 : decode cX7_pipe 21 = .ok (.iload_n 2, 1) := by decide +kernel
theorem dX7_pipe_22 : decode cX7_pipe 22 = .ok (.iconst 0, 1) := by decide +kernel
theorem dX7_pipe_23 : decode cX7_pipe 23 = .ok (.bipush 50, 2) := by decide +kernel
theorem dX7_pipe_25 : decode cX7_pipe 25 = .ok (.invokestatic 62, 3) := by decide +kernel
theorem dX7_pipe_28 : decode cX7_pipe 28 = .ok (.ifCond .eq 13, 3) := by decide +kernel
theorem dX7_pipe_31 : decode cX7_pipe 31 = .ok (.iload_n 3, 1) := by decide +kernel
theorem dX7_pipe_32 : decode cX7_pipe 32 = .ok (.iconst 0, 1) := by decide +kernel
theorem dX7_pipe_33 : decode cX7_pipe 33 = .ok (.bipush 20, 2) := by decide +kernel
theorem dX7_pipe_35 : decode cX7_pipe 35 = .ok (.invokestatic 62, 3) := by decide +kernel
theorem dX7_pipe_38 : decode cX7_pipe 38 = .ok (.ifCond .ne 6, 3) := by decide +kernel
theorem dX7_pipe_41 : decode cX7_pipe 41 = .ok (.ldc 61, 2) := by decide +kernel
theorem dX7_pipe_43 : decode cX7_pipe 43 = .ok (.ireturn, 1) := by decide +kernel
theorem dX7_pipe_44 : decode cX7_pipe 44 = .ok (.aload_n 0, 1) := by decide +kernel
theorem dX7_pipe_45 : decode cX7_pipe 45 = .ok (.getfield 10, 3) := by decide +kernel
theorem dX7_pipe_48 : decode cX7_pipe 48 = .ok (.invokevirtual 66, 3) := by decide +kernel
theorem dX7_pipe_51 : decode cX7_pipe 51 = .ok (.istore 5, 2) := by decide +kernel
theorem dX7_pipe_53 : decode cX7_pipe 53 = .ok (.iload 5, 2) := by decide +kernel
theorem dX7_pipe_55 : decode cX7_pipe 55 = .ok (.bipush 30, 2) := by decide +kernel
theorem dX7_pipe_57 : decode cX7_pipe 57 = .ok (.if_icmp .lt 6, 3) := by decide +kernel
theorem dX7_pipe_60 : decode cX7_pipe 60 = .ok (.ldc 70, 2) := by decide +kernel
theorem dX7_pipe_62 : decode cX7_pipe 62 = .ok (.ireturn, 1) := by decide +kernel
theorem dX7_pipe_63 : decode cX7_pipe 63 = .ok (.aload_n 0, 1) := by decide +kernel
theorem dX7_pipe_64 : decode cX7_pipe 64 = .ok (.getfield 10, 3) := by decide +kernel
theorem dX7_pipe_67 : decode cX7_pipe 67 = .ok (.new 71, 3) := by decide +kernel
theorem dX7_pipe_70 : decode cX7_pipe 70 = .ok (.dup, 1) := by decide +kernel
theorem dX7_pipe_71 : decode cX7_pipe 71 = .ok (.iload 5, 2) := by decide +kernel
theorem dX7_pipe_73 : decode cX7_pipe 73 = .ok (.aload 4, 2) := by decide +kernel
theorem dX7_pipe_75 : decode cX7_pipe 75 = .ok (.iload_n 2, 1) := by decide +kernel
theorem dX7_pipe_76 : decode cX7_pipe 76 = .ok (.iload_n 3, 1) := by decide +kernel
theorem dX7_pipe_77 : decode cX7_pipe 77 = .ok (.invokespecial 73, 3) := by decide +kernel
theorem dX7_pipe_80 : decode cX7_pipe 80 = .ok (.invokevirtual 76, 3) := by decide +kernel
theorem dX7_pipe_83 : decode cX7_pipe 83 = .ok (.pop, 1) := by decide +kernel
theorem dX7_pipe_84 : decode cX7_pipe 84 = .ok (.iload 5, 2) := by decide +kernel
theorem dX7_pipe_86 : decode cX7_pipe 86 = .ok (.ireturn, 1) := by decide +kernel
set_option maxRecDepth 20000 in
theorem ggX7_leak_X7_pipeAt : GoodIn wsX7_leak wsX7_pipeAt := goodIn_r _ [7, 8, 9, 10, 11, 12, 13, 14, 15, 16, 17, 6, 18, 19, 20, 21, 22, 23, 24, 25, 26, 27, 28, 29, 30, 31, 32, 33, 34, 35, 42, 43, 44, 45, 46, 47, 48, 49, 50, 51, 52] (by decide +kernel) (by decide +kernel)
set_option maxRecDepth 20000 in
theorem gX7_leak_X7_pipeAt : GoodIn wsX7_leak (wsV RX7 56 RX7 yX7_pipeAt wsX7_pipeAt) := goodIn_app (goodIn_of _ (by decide +kernel)) ggX7_leak_X7_pipeAt
set_option maxRecDepth 20000 in
theorem ggX7_leak_X7_within : GoodIn wsX7_leak wsX7_within := goodIn_r _ [18] (by decide +kernel) (by decide +kernel)
set_option maxRecDepth 20000 in
theorem gX7_leak_X7_within : GoodIn wsX7_leak (va_wsS RX7 62 yX7_within wsX7_within) := goodIn_app (goodIn_of _ (by decide +kernel)) ggX7_leak_X7_within
theorem dX7_leak_0 : decode cX7_leak 0 = .ok (.aload_n 0, 1) := by decide +kernel
theorem dX7_leak_1 : decode cX7_leak 1 = .ok (.iload_n 1, 1) := by decide +kernel
theorem dX7_leak_2 : decode cX7_leak 2 = .ok (.invokevirtual 56, 3) := by decide +kernel
theorem dX7_leak_5 : decode cX7_leak 5 = .ok (.astore_n 3, 1) := by decide +kernel
theorem dX7_leak_6 : decode cX7_leak 6 = .ok (.aload_n 3, 1) := by decide +kernel
theorem dX7_leak_7 : decode cX7_leak 7 = .ok (.ifnull 13, 3) := by decide +kernel
theorem dX7_leak_10 : decode cX7_leak 10 = .ok (.iload_n 2, 1) := by decide +kernel
theorem dX7_leak_11 : decode cX7_leak 11 = .ok (.iconst 0, 1) := by decide +kernel
theorem dX7_leak_12 : decode cX7_leak 12 = .ok (.bipush 60, 2) := by decide +kernel
theorem dX7_leak_14 : decode cX7_leak 14 = .ok (.invokestatic 62, 3) := by decide +kernel
theorem dX7_leak_17 : decode cX7_leak 17 = .ok (.ifCond .ne 6, 3) := by decide +kernel
theorem dX7_leak_20 : decode cX7_leak 20 = .ok (.ldc 61, 2) := by decide +kernel
theorem dX7_leak_22 : decode cX7_leak 22 = .ok (.ireturn, 1) := by decide +kernel
theorem dX7_leak_23 : decode cX7_leak 23 = .ok (.aload_n 3, 1) := by decide +kernel
theorem dX7_leak_24 : decode cX7_leak 24 = .ok (.getfield 80, 3) := by decide +kernel
theorem dX7_leak_27 : decode cX7_leak 27 = .ok (.istore 4, 2) := by decide +kernel
theorem dX7_leak_29 : decode cX7_leak 29 = .ok (.aload_n 3, 1) := by decide +kernel
theorem dX7_leak_30 : decode cX7_leak 30 = .ok (.iload_n 2, 1) := by decide +kernel
theorem dX7_leak_31 : decode cX7_leak 31 = .ok (.putfield 80, 3) := by decide +kernel
theorem dX7_leak_34 : decode cX7_leak 34 = .ok (.iload 4, 2) := by decide +kernel
theorem dX7_leak_36 : decode cX7_leak 36 = .ok (.ireturn, 1) := by decide +kernel
set_option maxRecDepth 20000 in
theorem ggX7_told_X7_pipeAt : GoodIn wsX7_told wsX7_pipeAt := goodIn_r _ [8, 9, 10, 11, 12, 13, 14, 15, 16, 17, 18, 7, 19, 20, 21, 22, 23, 24, 25, 26, 27, 28, 29, 30, 31, 32, 33, 34, 35, 36, 59, 60, 61, 62, 63, 64, 65, 66, 67, 68, 69] (by decide +kernel) (by decide +kernel)
set_option maxRecDepth 20000 in
theorem gX7_told_X7_pipeAt : GoodIn wsX7_told (wsV RX7 56 RX7 yX7_pipeAt wsX7_pipeAt) := goodIn_app (goodIn_of _ (by decide +kernel)) ggX7_told_X7_pipeAt
set_option maxRecDepth 20000 in
theorem ggX7_told_X3_air : GoodIn wsX7_told wsX3_air := goodIn_r _ [41, 42, 43, 44, 45, 46, 40, 47, 48, 49, 50, 51, 52, 53, 54, 55, 56, 57, 58] (by decide +kernel) (by decide +kernel)
set_option maxRecDepth 20000 in
theorem gX7_told_X3_air : GoodIn wsX7_told (wsV RX7 84 RX3 yX3_air wsX3_air) := goodIn_app (goodIn_of _ (by decide +kernel)) ggX7_told_X3_air
theorem dX7_told_0 : decode cX7_told 0 = .ok (.aload_n 0, 1) := by decide +kernel
theorem dX7_told_1 : decode cX7_told 1 = .ok (.iload_n 1, 1) := by decide +kernel
theorem dX7_told_2 : decode cX7_told 2 = .ok (.invokevirtual 56, 3) := by decide +kernel
theorem dX7_told_5 : decode cX7_told 5 = .ok (.astore_n 3, 1) := by decide +kernel
theorem dX7_told_6 : decode cX7_told 6 = .ok (.aload_n 3, 1) := by decide +kernel
theorem dX7_told_7 : decode cX7_told 7 = .ok (.ifnonnull 6, 3) := by decide +kernel
theorem dX7_told_10 : decode cX7_told 10 = .ok (.ldc 61, 2) := by decide +kernel
theorem dX7_told_12 : decode cX7_told 12 = .ok (.ireturn, 1) := by decide +kernel
theorem dX7_told_13 : decode cX7_told 13 = .ok (.iload_n 2, 1) := by decide +kernel
theorem dX7_told_14 : decode cX7_told 14 = .ok (.tableswitch 41 0 2 #[26, 31, 36], 26) := by decide +kernel
theorem dX7_told_40 : decode cX7_told 40 = .ok (.aload_n 3, 1) := by decide +kernel
theorem dX7_told_41 : decode cX7_told 41 = .ok (.invokevirtual 84, 3) := by decide +kernel
theorem dX7_told_44 : decode cX7_told 44 = .ok (.ireturn, 1) := by decide +kernel
theorem dX7_told_45 : decode cX7_told 45 = .ok (.aload_n 3, 1) := by decide +kernel
theorem dX7_told_46 : decode cX7_told 46 = .ok (.getfield 87, 3) := by decide +kernel
theorem dX7_told_49 : decode cX7_told 49 = .ok (.ireturn, 1) := by decide +kernel
theorem dX7_told_50 : decode cX7_told 50 = .ok (.aload_n 3, 1) := by decide +kernel
theorem dX7_told_51 : decode cX7_told 51 = .ok (.getfield 80, 3) := by decide +kernel
theorem dX7_told_54 : decode cX7_told 54 = .ok (.ireturn, 1) := by decide +kernel
theorem dX7_told_55 : decode cX7_told 55 = .ok (.ldc 61, 2) := by decide +kernel
theorem dX7_told_57 : decode cX7_told 57 = .ok (.ireturn, 1) := by decide +kernel
set_option maxRecDepth 20000 in
theorem ggX7_dial_X7_pipeAt : GoodIn wsX7_dial wsX7_pipeAt := goodIn_r _ [11, 12, 13, 14, 15, 16, 17, 18, 19, 20, 21, 10, 22, 23, 24, 25, 26, 27, 28, 29, 30, 31, 32, 33, 34, 35, 36, 37, 38, 39, 102, 103, 104, 105, 106, 107, 108, 109, 122, 123, 124] (by decide +kernel) (by decide +kernel)
set_option maxRecDepth 20000 in
theorem gX7_dial_X7_pipeAt : GoodIn wsX7_dial (wsV RX7 56 RX7 yX7_pipeAt wsX7_pipeAt) := goodIn_app (goodIn_of _ (by decide +kernel)) ggX7_dial_X7_pipeAt
set_option maxRecDepth 20000 in
theorem ggX7_dial_X7_within : GoodIn wsX7_dial wsX7_within := goodIn_r _ [22] (by decide +kernel) (by decide +kernel)
set_option maxRecDepth 20000 in
theorem gX7_dial_X7_within : GoodIn wsX7_dial (va_wsS RX7 62 yX7_within wsX7_within) := goodIn_app (goodIn_of _ (by decide +kernel)) ggX7_dial_X7_within
set_option maxRecDepth 20000 in
theorem ggX7_dial_Jx4a65c_size_8abf5 : GoodIn wsX7_dial wsJx4a65c_size_8abf5 := goodIn_r _ [18, 19, 122, 123, 124] (by decide +kernel) (by decide +kernel)
set_option maxRecDepth 20000 in
theorem gX7_dial_Jx4a65c_size_8abf5 : GoodIn wsX7_dial (wsV RX7 66 RJx4a65c yJx4a65c_size_8abf5 wsJx4a65c_size_8abf5) := goodIn_app (goodIn_of _ (by decide +kernel)) ggX7_dial_Jx4a65c_size_8abf5
set_option maxRecDepth 20000 in
theorem ggX7_dial_X0_init : GoodIn wsX7_dial wsX0_init := goodIn_r _ [42, 43, 44, 45, 46, 47, 48, 110, 111, 112, 113, 114, 115, 116, 117, 118, 119, 120, 121] (by decide +kernel) (by decide +kernel)
set_option maxRecDepth 20000 in
theorem gX7_dial_X0_init : GoodIn wsX7_dial (wsX0_init) := ggX7_dial_X0_init
set_option maxRecDepth 20000 in
theorem ggX7_dial_Jx4a65c_add_9ea2d : GoodIn wsX7_dial wsJx4a65c_add_9ea2d := goodIn_r _ [52, 53, 54, 39, 19, 55, 56, 57, 17, 58, 59, 60, 61, 62, 63, 64, 65, 66, 67, 68, 69, 70, 71, 72, 73, 74, 75, 76, 77, 78, 79, 80, 81, 82, 83, 84, 85, 86, 87, 88, 89, 90, 91, 92, 93, 94, 95, 96, 97, 98, 99, 100, 101, 122, 123, 124] (by decide +kernel) (by decide +kernel)
set_option maxRecDepth 20000 in
theorem gX7_dial_Jx4a65c_add_9ea2d : GoodIn wsX7_dial (wsV RX7 76 RJx4a65c yJx4a65c_add_9ea2d wsJx4a65c_add_9ea2d) := goodIn_app (goodIn_of _ (by decide +kernel)) ggX7_dial_Jx4a65c_add_9ea2d
theorem dX7_dial_0 : decode cX7_dial 0 = .ok (.aload_n 0, 1) := by decide +kernel
theorem dX7_dial_1 : decode cX7_dial 1 = .ok (.iload_n 1, 1) := by decide +kernel
theorem dX7_dial_2 : decode cX7_dial 2 = .ok (.invokevirtual 56, 3) := by decide +kernel
theorem dX7_dial_5 : decode cX7_dial 5 = .ok (.astore 4, 2) := by decide +kernel
theorem dX7_dial_7 : decode cX7_dial 7 = .ok (.aload 4, 2) := by decide +kernel
theorem dX7_dial_9 : decode cX7_dial 9 = .ok (.ifnull 22, 3) := by decide +kernel
theorem dX7_dial_12 : decode cX7_dial 12 = .ok (.iload_n 2, 1) := by decide +kernel
theorem dX7_dial_13 : decode cX7_dial 13 = .ok (.iconst 1, 1) := by decide +kernel
theorem dX7_dial_14 : decode cX7_dial 14 = .ok (.bipush 100, 2) := by decide +kernel
theorem dX7_dial_16 : decode cX7_dial 16 = .ok (.invokestatic 62, 3) := by decide +kernel
theorem dX7_dial_19 : decode cX7_dial 19 = .ok (.ifCond .eq 12, 3) := by decide +kernel
theorem dX7_dial_22 : decode cX7_dial 22 = .ok (.iload_n 3, 1) := by decide +kernel
theorem dX7_dial_23 : decode cX7_dial 23 = .ok (.iconst 0, 1) := by decide +kernel
theorem dX7_dial_24 : decode cX7_dial 24 = .ok (.iconst 2, 1) := by decide +kernel
theorem dX7_dial_25 : decode cX7_dial 25 = .ok (.invokestatic 62, 3) := by decide +kernel
theorem dX7_dial_28 : decode cX7_dial 28 = .ok (.ifCond .ne 6, 3) := by decide +kernel
theorem dX7_dial_31 : decode cX7_dial 31 = .ok (.ldc 61, 2) := by decide +kernel
theorem dX7_dial_33 : decode cX7_dial 33 = .ok (.ireturn, 1) := by decide +kernel
theorem dX7_dial_34 : decode cX7_dial 34 = .ok (.aload_n 0, 1) := by decide +kernel
theorem dX7_dial_35 : decode cX7_dial 35 = .ok (.getfield 16, 3) := by decide +kernel
theorem dX7_dial_38 : decode cX7_dial 38 = .ok (.invokevirtual 66, 3) := by decide +kernel
theorem dX7_dial_41 : decode cX7_dial 41 = .ok (.istore 5, 2) := by decide +kernel
theorem dX7_dial_43 : decode cX7_dial 43 = .ok (.iload 5, 2) := by decide +kernel
theorem dX7_dial_45 : decode cX7_dial 45 = .ok (.bipush 40, 2) := by decide +kernel
theorem dX7_dial_47 : decode cX7_dial 47 = .ok (.if_icmp .lt 6, 3) := by decide +kernel
theorem dX7_dial_50 : decode cX7_dial 50 = .ok (.ldc 70, 2) := by decide +kernel
theorem dX7_dial_52 : decode cX7_dial 52 = .ok (.ireturn, 1) := by decide +kernel
theorem dX7_dial_53 : decode cX7_dial 53 = .ok (.aload_n 0, 1) := by decide +kernel
theorem dX7_dial_54 : decode cX7_dial 54 = .ok (.getfield 16, 3) := by decide +kernel
theorem dX7_dial_57 : decode cX7_dial 57 = .ok (.new 90, 3) := by decide +kernel
theorem dX7_dial_60 : decode cX7_dial 60 = .ok (.dup, 1) := by decide +kernel
theorem dX7_dial_61 : decode cX7_dial 61 = .ok (.aload 4, 2) := by decide +kernel
theorem dX7_dial_63 : decode cX7_dial 63 = .ok (.iload_n 2, 1) := by decide +kernel
theorem dX7_dial_64 : decode cX7_dial 64 = .ok (.iload_n 3, 1) := by decide +kernel
theorem dX7_dial_65 : decode cX7_dial 65 = .ok (.invokespecial 92, 3) := by decide +kernel
theorem dX7_dial_68 : decode cX7_dial 68 = .ok (.invokevirtual 76, 3) := by decide +kernel
theorem dX7_dial_71 : decode cX7_dial 71 = .ok (.pop, 1) := by decide +kernel
theorem dX7_dial_72 : decode cX7_dial 72 = .ok (.iload 5, 2) := by decide +kernel
theorem dX7_dial_74 : decode cX7_dial 74 = .ok (.ireturn, 1) := by decide +kernel
set_option maxRecDepth 20000 in
theorem ggX7_puff_X2_tellMinute : GoodIn wsX7_puff wsX2_tellMinute := goodIn_r _ [12, 13, 14, 15, 16, 82, 83, 84, 85, 86] (by decide +kernel) (by decide +kernel)
set_option maxRecDepth 20000 in
theorem gX7_puff_X2_tellMinute : GoodIn wsX7_puff (wsV RX7 100 RX2 yX2_tellMinute wsX2_tellMinute) := goodIn_app (goodIn_of _ (by decide +kernel)) ggX7_puff_X2_tellMinute
set_option maxRecDepth 20000 in
theorem ggX7_puff_Jx4a65c_size_8abf5 : GoodIn wsX7_puff wsJx4a65c_size_8abf5 := goodIn_r _ [21, 22, 87, 88, 89] (by decide +kernel) (by decide +kernel)
set_option maxRecDepth 20000 in
theorem gX7_puff_Jx4a65c_size_8abf5 : GoodIn wsX7_puff (wsV RX7 66 RJx4a65c yJx4a65c_size_8abf5 wsJx4a65c_size_8abf5) := goodIn_app (goodIn_of _ (by decide +kernel)) ggX7_puff_Jx4a65c_size_8abf5
set_option maxRecDepth 20000 in
theorem ggX7_puff_Jx4a65c_get_915e3 : GoodIn wsX7_puff wsJx4a65c_get_915e3 := goodIn_r _ [26, 22, 27, 28, 29, 30, 31, 32, 33, 34, 35, 36, 37, 20, 38, 39, 87, 88, 89] (by decide +kernel) (by decide +kernel)
set_option maxRecDepth 20000 in
theorem gX7_puff_Jx4a65c_get_915e3 : GoodIn wsX7_puff (wsV RX7 103 RJx4a65c yJx4a65c_get_915e3 wsJx4a65c_get_915e3) := goodIn_app (goodIn_of _ (by decide +kernel)) ggX7_puff_Jx4a65c_get_915e3
set_option maxRecDepth 20000 in
theorem ggX7_puff_X0_takePuff : GoodIn wsX7_puff wsX0_takePuff := goodIn_r _ [44, 45, 46, 47, 48, 49, 50, 51, 52, 53, 54, 55, 56, 57, 58, 59, 60, 61, 62, 63, 64, 65, 66, 67, 68, 69, 70, 43, 71, 72, 73, 90, 91, 92, 93, 94, 95, 96, 97, 98, 99, 100, 101, 102, 103, 104, 105, 106, 107] (by decide +kernel) (by decide +kernel)
set_option maxRecDepth 20000 in
theorem gX7_puff_X0_takePuff : GoodIn wsX7_puff (wsV RX7 107 RX0 yX0_takePuff wsX0_takePuff) := goodIn_app (goodIn_of _ (by decide +kernel)) ggX7_puff_X0_takePuff
theorem dX7_puff_0 : decode cX7_puff 0 = .ok (.aload_n 0, 1) := by decide +kernel
theorem dX7_puff_1 : decode cX7_puff 1 = .ok (.getfield 22, 3) := by decide +kernel
theorem dX7_puff_4 : decode cX7_puff 4 = .ok (.getfield 95, 3) := by decide +kernel
theorem dX7_puff_7 : decode cX7_puff 7 = .ok (.ldc 98, 2) := by decide +kernel
theorem dX7_puff_9 : decode cX7_puff 9 = .ok (.if_icmp .lt 6, 3) := by decide +kernel
theorem dX7_puff_12 : decode cX7_puff 12 = .ok (.ldc 99, 2) := by decide +kernel
theorem dX7_puff_14 : decode cX7_puff 14 = .ok (.ireturn, 1) := by decide +kernel
theorem dX7_puff_15 : decode cX7_puff 15 = .ok (.aload_n 0, 1) := by decide +kernel
theorem dX7_puff_16 : decode cX7_puff 16 = .ok (.getfield 22, 3) := by decide +kernel
theorem dX7_puff_19 : decode cX7_puff 19 = .ok (.invokevirtual 100, 3) := by decide +kernel
theorem dX7_puff_22 : decode cX7_puff 22 = .ok (.iconst 0, 1) := by decide +kernel
theorem dX7_puff_23 : decode cX7_puff 23 = .ok (.istore_n 1, 1) := by decide +kernel
theorem dX7_puff_24 : decode cX7_puff 24 = .ok (.iconst 0, 1) := by decide +kernel
theorem dX7_puff_25 : decode cX7_puff 25 = .ok (.istore_n 2, 1) := by decide +kernel
theorem dX7_puff_26 : decode cX7_puff 26 = .ok (.iload_n 2, 1) := by decide +kernel
theorem dX7_puff_27 : decode cX7_puff 27 = .ok (.aload_n 0, 1) := by decide +kernel
theorem dX7_puff_28 : decode cX7_puff 28 = .ok (.getfield 16, 3) := by decide +kernel
theorem dX7_puff_31 : decode cX7_puff 31 = .ok (.invokevirtual 66, 3) := by decide +kernel
theorem dX7_puff_34 : decode cX7_puff 34 = .ok (.if_icmp .ge 29, 3) := by decide +kernel
theorem dX7_puff_37 : decode cX7_puff 37 = .ok (.aload_n 0, 1) := by decide +kernel
theorem dX7_puff_38 : decode cX7_puff 38 = .ok (.getfield 16, 3) := by decide +kernel
theorem dX7_puff_41 : decode cX7_puff 41 = .ok (.iload_n 2, 1) := by decide +kernel
theorem dX7_puff_42 : decode cX7_puff 42 = .ok (.invokevirtual 103, 3) := by decide +kernel
theorem dX7_puff_45 : decode cX7_puff 45 = .ok (.checkcast 90, 3) := by decide +kernel
theorem dX7_puff_48 : decode cX7_puff 48 = .ok (.invokevirtual 107, 3) := by decide +kernel
theorem dX7_puff_51 : decode cX7_puff 51 = .ok (.ifCond .ne 6, 3) := by decide +kernel
theorem dX7_puff_54 : decode cX7_puff 54 = .ok (.iinc 1 1, 3) := by decide +kernel
theorem dX7_puff_57 : decode cX7_puff 57 = .ok (.iinc 2 1, 3) := by decide +kernel
theorem dX7_puff_60 : decode cX7_puff 60 = .ok (.goto (-34), 3) := by decide +kernel
theorem dX7_puff_63 : decode cX7_puff 63 = .ok (.aload_n 0, 1) := by decide +kernel
theorem dX7_puff_64 : decode cX7_puff 64 = .ok (.iload_n 1, 1) := by decide +kernel
theorem dX7_puff_65 : decode cX7_puff 65 = .ok (.putfield 111, 3) := by decide +kernel
theorem dX7_puff_68 : decode cX7_puff 68 = .ok (.iload_n 1, 1) := by decide +kernel
theorem dX7_puff_69 : decode cX7_puff 69 = .ok (.ireturn, 1) := by decide +kernel
set_option maxRecDepth 20000 in
theorem ggX7_drift_X7_within : GoodIn wsX7_drift wsX7_within := goodIn_r _ [7] (by decide +kernel) (by decide +kernel)
set_option maxRecDepth 20000 in
theorem gX7_drift_X7_within : GoodIn wsX7_drift (va_wsS RX7 62 yX7_within wsX7_within) := goodIn_app (goodIn_of _ (by decide +kernel)) ggX7_drift_X7_within
theorem dX7_drift_0 : decode cX7_drift 0 = .ok (.iload_n 1, 1) := by decide +kernel
theorem dX7_drift_1 : decode cX7_drift 1 = .ok (.bipush (-5), 2) := by decide +kernel
theorem dX7_drift_3 : decode cX7_drift 3 = .ok (.iconst 5, 1) := by decide +kernel
theorem dX7_drift_4 : decode cX7_drift 4 = .ok (.invokestatic 62, 3) := by decide +kernel
theorem dX7_drift_7 : decode cX7_drift 7 = .ok (.ifCond .ne 6, 3) := by decide +kernel
theorem dX7_drift_10 : decode cX7_drift 10 = .ok (.ldc 61, 2) := by decide +kernel
theorem dX7_drift_12 : decode cX7_drift 12 = .ok (.ireturn, 1) := by decide +kernel
theorem dX7_drift_13 : decode cX7_drift 13 = .ok (.aload_n 0, 1) := by decide +kernel
theorem dX7_drift_14 : decode cX7_drift 14 = .ok (.getfield 22, 3) := by decide +kernel
theorem dX7_drift_17 : decode cX7_drift 17 = .ok (.getfield 114, 3) := by decide +kernel
theorem dX7_drift_20 : decode cX7_drift 20 = .ok (.istore_n 2, 1) := by decide +kernel
theorem dX7_drift_21 : decode cX7_drift 21 = .ok (.aload_n 0, 1) := by decide +kernel
theorem dX7_drift_22 : decode cX7_drift 22 = .ok (.getfield 22, 3) := by decide +kernel
theorem dX7_drift_25 : decode cX7_drift 25 = .ok (.iload_n 1, 1) := by decide +kernel
theorem dX7_drift_26 : decode cX7_drift 26 = .ok (.putfield 114, 3) := by decide +kernel
theorem dX7_drift_29 : decode cX7_drift 29 = .ok (.iload_n 2, 1) := by decide +kernel
theorem dX7_drift_30 : decode cX7_drift 30 = .ok (.ireturn, 1) := by decide +kernel
set_option maxRecDepth 20000 in
theorem ggX7_sight_X2_putRightByStars : GoodIn wsX7_sight wsX2_putRightByStars := goodIn_r _ [6, 7, 8, 9, 18, 19, 20, 21, 22] (by decide +kernel) (by decide +kernel)
set_option maxRecDepth 20000 in
theorem gX7_sight_X2_putRightByStars : GoodIn wsX7_sight (wsV RX7 117 RX2 yX2_putRightByStars wsX2_putRightByStars) := goodIn_app (goodIn_of _ (by decide +kernel)) ggX7_sight_X2_putRightByStars
theorem dX7_sight_0 : decode cX7_sight 0 = .ok (.aload_n 0, 1) := by decide +kernel
theorem dX7_sight_1 : decode cX7_sight 1 = .ok (.getfield 22, 3) := by decide +kernel
theorem dX7_sight_4 : decode cX7_sight 4 = .ok (.invokevirtual 117, 3) := by decide +kernel
theorem dX7_sight_7 : decode cX7_sight 7 = .ok (.lreturn, 1) := by decide +kernel
theorem dX7_now_0 : decode cX7_now 0 = .ok (.iload_n 1, 1) := by decide +kernel
theorem dX7_now_1 : decode cX7_now 1 = .ok (.tableswitch 85 0 4 #[35, 44, 52, 64, 76], 35) := by decide +kernel
theorem dX7_now_36 : decode cX7_now 36 = .ok (.aload_n 0, 1) := by decide +kernel
theorem dX7_now_37 : decode cX7_now 37 = .ok (.getfield 22, 3) := by decide +kernel
theorem dX7_now_40 : decode cX7_now 40 = .ok (.getfield 95, 3) := by decide +kernel
theorem dX7_now_43 : decode cX7_now 43 = .ok (.i2l, 1) := by decide +kernel
theorem dX7_now_44 : decode cX7_now 44 = .ok (.lreturn, 1) := by decide +kernel
theorem dX7_now_45 : decode cX7_now 45 = .ok (.aload_n 0, 1) := by decide +kernel
theorem dX7_now_46 : decode cX7_now 46 = .ok (.getfield 22, 3) := by decide +kernel
theorem dX7_now_49 : decode cX7_now 49 = .ok (.getfield 121, 3) := by decide +kernel
theorem dX7_now_52 : decode cX7_now 52 = .ok (.lreturn, 1) := by decide +kernel
theorem dX7_now_53 : decode cX7_now 53 = .ok (.ldc2_w 125, 3) := by decide +kernel
theorem dX7_now_56 : decode cX7_now 56 = .ok (.aload_n 0, 1) := by decide +kernel
theorem dX7_now_57 : decode cX7_now 57 = .ok (.getfield 22, 3) := by decide +kernel
theorem dX7_now_60 : decode cX7_now 60 = .ok (.getfield 127, 3) := by decide +kernel
theorem dX7_now_63 : decode cX7_now 63 = .ok (.lmul, 1) := by decide +kernel
theorem dX7_now_64 : decode cX7_now 64 = .ok (.lreturn, 1) := by decide +kernel
theorem dX7_now_65 : decode cX7_now 65 = .ok (.ldc2_w 130, 3) := by decide +kernel
theorem dX7_now_68 : decode cX7_now 68 = .ok (.aload_n 0, 1) := by decide +kernel
theorem dX7_now_69 : decode cX7_now 69 = .ok (.getfield 22, 3) := by decide +kernel
theorem dX7_now_72 : decode cX7_now 72 = .ok (.getfield 127, 3) := by decide +kernel
theorem dX7_now_75 : decode cX7_now 75 = .ok (.lmul, 1) := by decide +kernel
theorem dX7_now_76 : decode cX7_now 76 = .ok (.lreturn, 1) := by decide +kernel
theorem dX7_now_77 : decode cX7_now 77 = .ok (.aload_n 0, 1) := by decide +kernel
theorem dX7_now_78 : decode cX7_now 78 = .ok (.getfield 22, 3) := by decide +kernel
theorem dX7_now_81 : decode cX7_now 81 = .ok (.getfield 132, 3) := by decide +kernel
theorem dX7_now_84 : decode cX7_now 84 = .ok (.i2l, 1) := by decide +kernel
theorem dX7_now_85 : decode cX7_now 85 = .ok (.lreturn, 1) := by decide +kernel
theorem dX7_now_86 : decode cX7_now 86 = .ok (.ldc2_w 135, 3) := by decide +kernel
theorem dX7_now_89 : decode cX7_now 89 = .ok (.lreturn, 1) := by decide +kernel
set_option maxRecDepth 20000 in
theorem ggX7_look_X7_dialAt : GoodIn wsX7_look wsX7_dialAt := goodIn_r _ [7, 8, 9, 10, 11, 12, 13, 14, 15, 16, 17, 6, 18, 19, 20, 21, 22, 23, 24, 25, 26, 27, 28, 29, 30, 31, 32, 33, 34, 35, 56, 57, 58, 59, 60, 61, 62, 63, 64, 65, 66] (by decide +kernel) (by decide +kernel)
set_option maxRecDepth 20000 in
theorem gX7_look_X7_dialAt : GoodIn wsX7_look (wsV RX7 137 RX7 yX7_dialAt wsX7_dialAt) := goodIn_app (goodIn_of _ (by decide +kernel)) ggX7_look_X7_dialAt
set_option maxRecDepth 20000 in
theorem ggX7_look_X0_becomeKnown : GoodIn wsX7_look wsX0_becomeKnown := goodIn_r _ [40, 41, 42, 43, 44, 45, 46, 47, 48, 49, 50, 51, 52, 53, 54, 55] (by decide +kernel) (by decide +kernel)
set_option maxRecDepth 20000 in
theorem gX7_look_X0_becomeKnown : GoodIn wsX7_look (wsV RX7 141 RX0 yX0_becomeKnown wsX0_becomeKnown) := goodIn_app (goodIn_of _ (by decide +kernel)) ggX7_look_X0_becomeKnown
theorem dX7_look_0 : decode cX7_look 0 = .ok (.aload_n 0, 1) := by decide +kernel
theorem dX7_look_1 : decode cX7_look 1 = .ok (.iload_n 1, 1) := by decide +kernel
theorem dX7_look_2 : decode cX7_look 2 = .ok (.invokevirtual 137, 3) := by decide +kernel
theorem dX7_look_5 : decode cX7_look 5 = .ok (.astore_n 2, 1) := by decide +kernel
theorem dX7_look_6 : decode cX7_look 6 = .ok (.aload_n 2, 1) := by decide +kernel
theorem dX7_look_7 : decode cX7_look 7 = .ok (.ifnonnull 6, 3) := by decide +kernel
theorem dX7_look_10 : decode cX7_look 10 = .ok (.ldc 61, 2) := by decide +kernel
theorem dX7_look_12 : decode cX7_look 12 = .ok (.ireturn, 1) := by decide +kernel
theorem dX7_look_13 : decode cX7_look 13 = .ok (.aload_n 2, 1) := by decide +kernel
theorem dX7_look_14 : decode cX7_look 14 = .ok (.invokevirtual 141, 3) := by decide +kernel
theorem dX7_look_17 : decode cX7_look 17 = .ok (.aload_n 2, 1) := by decide +kernel
theorem dX7_look_18 : decode cX7_look 18 = .ok (.getfield 144, 3) := by decide +kernel
theorem dX7_look_21 : decode cX7_look 21 = .ok (.ireturn, 1) := by decide +kernel
set_option maxRecDepth 20000 in
theorem ggX7_state_X7_dialAt : GoodIn wsX7_state wsX7_dialAt := goodIn_r _ [13, 14, 15, 16, 17, 18, 19, 20, 21, 22, 23, 12, 24, 25, 26, 27, 28, 29, 30, 31, 32, 33, 34, 35, 36, 37, 38, 39, 40, 41, 60, 61, 62, 63, 64, 65, 66, 67, 68, 69, 70] (by decide +kernel) (by decide +kernel)
set_option maxRecDepth 20000 in
theorem gX7_state_X7_dialAt : GoodIn wsX7_state (wsV RX7 137 RX7 yX7_dialAt wsX7_dialAt) := goodIn_app (goodIn_of _ (by decide +kernel)) ggX7_state_X7_dialAt
theorem dX7_state_0 : decode cX7_state 0 = .ok (.aload_n 0, 1) := by decide +kernel
theorem dX7_state_1 : decode cX7_state 1 = .ok (.iload_n 1, 1) := by decide +kernel
theorem dX7_state_2 : decode cX7_state 2 = .ok (.invokevirtual 137, 3) := by decide +kernel
theorem dX7_state_5 : decode cX7_state 5 = .ok (.astore_n 3, 1) := by decide +kernel
theorem dX7_state_6 : decode cX7_state 6 = .ok (.aload_n 3, 1) := by decide +kernel
theorem dX7_state_7 : decode cX7_state 7 = .ok (.ifnonnull 6, 3) := by decide +kernel
theorem dX7_state_10 : decode cX7_state 10 = .ok (.ldc 61, 2) := by decide +kernel
theorem dX7_state_12 : decode cX7_state 12 = .ok (.ireturn, 1) := by decide +kernel
theorem dX7_state_13 : decode cX7_state 13 = .ok (.iload_n 2, 1) := by decide +kernel
theorem dX7_state_14 : decode cX7_state 14 = .ok (.tableswitch 76 0 5 #[38, 43, 48, 58, 63, 71], 38) := by decide +kernel
theorem dX7_state_52 : decode cX7_state 52 = .ok (.aload_n 3, 1) := by decide +kernel
theorem dX7_state_53 : decode cX7_state 53 = .ok (.getfield 144, 3) := by decide +kernel
theorem dX7_state_56 : decode cX7_state 56 = .ok (.ireturn, 1) := by decide +kernel
theorem dX7_state_57 : decode cX7_state 57 = .ok (.aload_n 3, 1) := by decide +kernel
theorem dX7_state_58 : decode cX7_state 58 = .ok (.getfield 147, 3) := by decide +kernel
theorem dX7_state_61 : decode cX7_state 61 = .ok (.ireturn, 1) := by decide +kernel
theorem dX7_state_62 : decode cX7_state 62 = .ok (.aload_n 3, 1) := by decide +kernel
theorem dX7_state_63 : decode cX7_state 63 = .ok (.getfield 147, 3) := by decide +kernel
theorem dX7_state_66 : decode cX7_state 66 = .ok (.aload_n 3, 1) := by decide +kernel
theorem dX7_state_67 : decode cX7_state 67 = .ok (.getfield 150, 3) := by decide +kernel
theorem dX7_state_70 : decode cX7_state 70 = .ok (.iadd, 1) := by decide +kernel
theorem dX7_state_71 : decode cX7_state 71 = .ok (.ireturn, 1) := by decide +kernel
theorem dX7_state_72 : decode cX7_state 72 = .ok (.aload_n 3, 1) := by decide +kernel
theorem dX7_state_73 : decode cX7_state 73 = .ok (.getfield 153, 3) := by decide +kernel
theorem dX7_state_76 : decode cX7_state 76 = .ok (.ireturn, 1) := by decide +kernel
theorem dX7_state_77 : decode cX7_state 77 = .ok (.aload_n 3, 1) := by decide +kernel
theorem dX7_state_78 : decode cX7_state 78 = .ok (.getfield 156, 3) := by decide +kernel
theorem dX7_state_81 : decode cX7_state 81 = .ok (.getfield 160, 3) := by decide +kernel
theorem dX7_state_84 : decode cX7_state 84 = .ok (.ireturn, 1) := by decide +kernel
theorem dX7_state_85 : decode cX7_state 85 = .ok (.aload_n 3, 1) := by decide +kernel
theorem dX7_state_86 : decode cX7_state 86 = .ok (.getfield 163, 3) := by decide +kernel
theorem dX7_state_89 : decode cX7_state 89 = .ok (.ireturn, 1) := by decide +kernel
theorem dX7_state_90 : decode cX7_state 90 = .ok (.ldc 61, 2) := by decide +kernel
theorem dX7_state_92 : decode cX7_state 92 = .ok (.ireturn, 1) := by decide +kernel
set_option maxRecDepth 20000 in
theorem ggX7_put_X7_dialAt : GoodIn wsX7_put wsX7_dialAt := goodIn_r _ [7, 8, 9, 10, 11, 12, 13, 14, 15, 16, 17, 6, 18, 19, 20, 21, 22, 23, 24, 25, 26, 27, 28, 29, 30, 31, 32, 33, 34, 35, 55, 56, 57, 58, 59, 60, 61, 62, 63, 64, 65] (by decide +kernel) (by decide +kernel)
set_option maxRecDepth 20000 in
theorem gX7_put_X7_dialAt : GoodIn wsX7_put (wsV RX7 137 RX7 yX7_dialAt wsX7_dialAt) := goodIn_app (goodIn_of _ (by decide +kernel)) ggX7_put_X7_dialAt
set_option maxRecDepth 20000 in
theorem ggX7_put_X7_within : GoodIn wsX7_put wsX7_within := goodIn_r _ [18] (by decide +kernel) (by decide +kernel)
set_option maxRecDepth 20000 in
theorem gX7_put_X7_within : GoodIn wsX7_put (va_wsS RX7 62 yX7_within wsX7_within) := goodIn_app (goodIn_of _ (by decide +kernel)) ggX7_put_X7_within
set_option maxRecDepth 20000 in
theorem ggX7_put_X0_putOn : GoodIn wsX7_put wsX0_putOn := goodIn_r _ [40, 41, 42, 43, 44, 45, 46, 47, 48, 49, 50, 51, 52, 53, 54] (by decide +kernel) (by decide +kernel)
set_option maxRecDepth 20000 in
theorem gX7_put_X0_putOn : GoodIn wsX7_put (wsV RX7 166 RX0 yX0_putOn wsX0_putOn) := goodIn_app (goodIn_of _ (by decide +kernel)) ggX7_put_X0_putOn
theorem dX7_put_0 : decode cX7_put 0 = .ok (.aload_n 0, 1) := by decide +kernel
theorem dX7_put_1 : decode cX7_put 1 = .ok (.iload_n 1, 1) := by decide +kernel
theorem dX7_put_2 : decode cX7_put 2 = .ok (.invokevirtual 137, 3) := by decide +kernel
theorem dX7_put_5 : decode cX7_put 5 = .ok (.astore_n 3, 1) := by decide +kernel
theorem dX7_put_6 : decode cX7_put 6 = .ok (.aload_n 3, 1) := by decide +kernel
theorem dX7_put_7 : decode cX7_put 7 = .ok (.ifnull 18, 3) := by decide +kernel
theorem dX7_put_10 : decode cX7_put 10 = .ok (.iload_n 2, 1) := by decide +kernel
theorem dX7_put_11 : decode cX7_put 11 = .ok (.ifCond .eq 14, 3) := by decide +kernel
theorem dX7_put_14 : decode cX7_put 14 = .ok (.iload_n 2, 1) := by decide +kernel
theorem dX7_put_15 : decode cX7_put 15 = .ok (.bipush (-60), 2) := by decide +kernel
theorem dX7_put_17 : decode cX7_put 17 = .ok (.bipush 60, 2) := by decide +kernel
theorem dX7_put_19 : decode cX7_put 19 = .ok (.invokestatic 62, 3) := by decide +kernel
theorem dX7_put_22 : decode cX7_put 22 = .ok (.ifCond .ne 6, 3) := by decide +kernel
theorem dX7_put_25 : decode cX7_put 25 = .ok (.ldc 61, 2) := by decide +kernel
theorem dX7_put_27 : decode cX7_put 27 = .ok (.ireturn, 1) := by decide +kernel
theorem dX7_put_28 : decode cX7_put 28 = .ok (.aload_n 3, 1) := by decide +kernel
theorem dX7_put_29 : decode cX7_put 29 = .ok (.iload_n 2, 1) := by decide +kernel
theorem dX7_put_30 : decode cX7_put 30 = .ok (.invokevirtual 166, 3) := by decide +kernel
theorem dX7_put_33 : decode cX7_put 33 = .ok (.aload_n 3, 1) := by decide +kernel
theorem dX7_put_34 : decode cX7_put 34 = .ok (.getfield 144, 3) := by decide +kernel
theorem dX7_put_37 : decode cX7_put 37 = .ok (.ireturn, 1) := by decide +kernel
set_option maxRecDepth 20000 in
theorem ggX7_right_X7_dialAt : GoodIn wsX7_right wsX7_dialAt := goodIn_r _ [7, 8, 9, 10, 11, 12, 13, 14, 15, 16, 17, 6, 18, 19, 20, 21, 22, 23, 24, 25, 26, 27, 28, 29, 30, 31, 32, 33, 34, 35, 61, 62, 63, 64, 65, 66, 67, 68, 69, 70, 71] (by decide +kernel) (by decide +kernel)
set_option maxRecDepth 20000 in
theorem gX7_right_X7_dialAt : GoodIn wsX7_right (wsV RX7 137 RX7 yX7_dialAt wsX7_dialAt) := goodIn_app (goodIn_of _ (by decide +kernel)) ggX7_right_X7_dialAt
set_option maxRecDepth 20000 in
theorem ggX7_right_X0_putRight : GoodIn wsX7_right wsX0_putRight := goodIn_r _ [40, 41, 42, 43, 44, 45, 39, 46, 47, 48, 49, 50, 51, 52, 53, 54, 55, 56, 57, 58, 59, 60] (by decide +kernel) (by decide +kernel)
set_option maxRecDepth 20000 in
theorem gX7_right_X0_putRight : GoodIn wsX7_right (wsV RX7 170 RX0 yX0_putRight wsX0_putRight) := goodIn_app (goodIn_of _ (by decide +kernel)) ggX7_right_X0_putRight
theorem dX7_right_0 : decode cX7_right 0 = .ok (.aload_n 0, 1) := by decide +kernel
theorem dX7_right_1 : decode cX7_right 1 = .ok (.iload_n 1, 1) := by decide +kernel
theorem dX7_right_2 : decode cX7_right 2 = .ok (.invokevirtual 137, 3) := by decide +kernel
theorem dX7_right_5 : decode cX7_right 5 = .ok (.astore_n 2, 1) := by decide +kernel
theorem dX7_right_6 : decode cX7_right 6 = .ok (.aload_n 2, 1) := by decide +kernel
theorem dX7_right_7 : decode cX7_right 7 = .ok (.ifnonnull 6, 3) := by decide +kernel
theorem dX7_right_10 : decode cX7_right 10 = .ok (.ldc 61, 2) := by decide +kernel
theorem dX7_right_12 : decode cX7_right 12 = .ok (.ireturn, 1) := by decide +kernel
theorem dX7_right_13 : decode cX7_right 13 = .ok (.aload_n 2, 1) := by decide +kernel
theorem dX7_right_14 : decode cX7_right 14 = .ok (.getfield 144, 3) := by decide +kernel
theorem dX7_right_17 : decode cX7_right 17 = .ok (.istore_n 3, 1) := by decide +kernel
theorem dX7_right_18 : decode cX7_right 18 = .ok (.aload_n 2, 1) := by decide +kernel
theorem dX7_right_19 : decode cX7_right 19 = .ok (.invokevirtual 170, 3) := by decide +kernel
theorem dX7_right_22 : decode cX7_right 22 = .ok (.iload_n 3, 1) := by decide +kernel
theorem dX7_right_23 : decode cX7_right 23 = .ok (.ireturn, 1) := by decide +kernel
set_option maxRecDepth 20000 in
theorem ggX7_round_X7_within : GoodIn wsX7_round wsX7_within := goodIn_r _ [5] (by decide +kernel) (by decide +kernel)
set_option maxRecDepth 20000 in
theorem gX7_round_X7_within : GoodIn wsX7_round (va_wsS RX7 62 yX7_within wsX7_within) := goodIn_app (goodIn_of _ (by decide +kernel)) ggX7_round_X7_within
set_option maxRecDepth 20000 in
theorem ggX7_round_X7_mostWrongDial : GoodIn wsX7_round wsX7_mostWrongDial := goodIn_r _ [9, 10, 11, 12, 13, 14, 15, 16, 17, 18, 19, 20, 21, 22, 23, 24, 25, 26, 27, 28, 29, 30, 31, 32, 33, 34, 35, 36, 37, 38, 39, 53, 54, 55, 56, 57, 58, 59, 60, 61, 62, 63, 64, 65, 66, 67, 68, 69, 70, 71, 72, 73, 74, 75] (by decide +kernel) (by decide +kernel)
set_option maxRecDepth 20000 in
theorem gX7_round_X7_mostWrongDial : GoodIn wsX7_round (wsV RX7 173 RX7 yX7_mostWrongDial wsX7_mostWrongDial) := goodIn_app (goodIn_of _ (by decide +kernel)) ggX7_round_X7_mostWrongDial
set_option maxRecDepth 20000 in
theorem ggX7_round_X0_putRight : GoodIn wsX7_round wsX0_putRight := goodIn_r _ [44, 45, 46, 47, 48, 49, 43, 50, 51, 52, 61, 62, 63, 64, 65, 66, 67, 68, 69, 70, 71, 72] (by decide +kernel) (by decide +kernel)
set_option maxRecDepth 20000 in
theorem gX7_round_X0_putRight : GoodIn wsX7_round (wsV RX7 170 RX0 yX0_putRight wsX0_putRight) := goodIn_app (goodIn_of _ (by decide +kernel)) ggX7_round_X0_putRight
theorem dX7_round_0 : decode cX7_round 0 = .ok (.iload_n 1, 1) := by decide +kernel
theorem dX7_round_1 : decode cX7_round 1 = .ok (.iconst 1, 1) := by decide +kernel
theorem dX7_round_2 : decode cX7_round 2 = .ok (.bipush 10, 2) := by decide +kernel
theorem dX7_round_4 : decode cX7_round 4 = .ok (.invokestatic 62, 3) := by decide +kernel
theorem dX7_round_7 : decode cX7_round 7 = .ok (.ifCond .ne 6, 3) := by decide +kernel
theorem dX7_round_10 : decode cX7_round 10 = .ok (.ldc 61, 2) := by decide +kernel
theorem dX7_round_12 : decode cX7_round 12 = .ok (.ireturn, 1) := by decide +kernel
theorem dX7_round_13 : decode cX7_round 13 = .ok (.iconst 0, 1) := by decide +kernel
theorem dX7_round_14 : decode cX7_round 14 = .ok (.istore_n 2, 1) := by decide +kernel
theorem dX7_round_15 : decode cX7_round 15 = .ok (.iload_n 2, 1) := by decide +kernel
theorem dX7_round_16 : decode cX7_round 16 = .ok (.iload_n 1, 1) := by decide +kernel
theorem dX7_round_17 : decode cX7_round 17 = .ok (.if_icmp .ge 24, 3) := by decide +kernel
theorem dX7_round_20 : decode cX7_round 20 = .ok (.aload_n 0, 1) := by decide +kernel
theorem dX7_round_21 : decode cX7_round 21 = .ok (.invokevirtual 173, 3) := by decide +kernel
theorem dX7_round_24 : decode cX7_round 24 = .ok (.astore_n 3, 1) := by decide +kernel
theorem dX7_round_25 : decode cX7_round 25 = .ok (.aload_n 3, 1) := by decide +kernel
theorem dX7_round_26 : decode cX7_round 26 = .ok (.ifnonnull 5, 3) := by decide +kernel
theorem dX7_round_29 : decode cX7_round 29 = .ok (.iload_n 2, 1) := by decide +kernel
theorem dX7_round_30 : decode cX7_round 30 = .ok (.ireturn, 1) := by decide +kernel
theorem dX7_round_31 : decode cX7_round 31 = .ok (.aload_n 3, 1) := by decide +kernel
theorem dX7_round_32 : decode cX7_round 32 = .ok (.invokevirtual 170, 3) := by decide +kernel
theorem dX7_round_35 : decode cX7_round 35 = .ok (.iinc 2 1, 3) := by decide +kernel
theorem dX7_round_38 : decode cX7_round 38 = .ok (.goto (-23), 3) := by decide +kernel
theorem dX7_round_41 : decode cX7_round 41 = .ok (.iload_n 2, 1) := by decide +kernel
theorem dX7_round_42 : decode cX7_round 42 = .ok (.ireturn, 1) := by decide +kernel
set_option maxRecDepth 20000 in
theorem ggX7_ahead_X7_dialAt : GoodIn wsX7_ahead wsX7_dialAt := goodIn_r _ [9, 10, 11, 12, 13, 14, 15, 16, 17, 18, 19, 8, 20, 21, 22, 23, 24, 25, 26, 27, 28, 29, 30, 31, 32, 33, 34, 35, 36, 37, 66, 67, 68, 69, 70, 71, 72, 73, 74, 75, 76] (by decide +kernel) (by decide +kernel)
set_option maxRecDepth 20000 in
theorem gX7_ahead_X7_dialAt : GoodIn wsX7_ahead (wsV RX7 137 RX7 yX7_dialAt wsX7_dialAt) := goodIn_app (goodIn_of _ (by decide +kernel)) ggX7_ahead_X7_dialAt
set_option maxRecDepth 20000 in
theorem ggX7_ahead_X0_toldKind : GoodIn wsX7_ahead wsX0_toldKind := goodIn_r _ [42, 43, 44, 48, 49, 50, 51, 52, 53, 54, 55, 56, 57, 58, 59] (by decide +kernel) (by decide +kernel)
set_option maxRecDepth 20000 in
theorem gX7_ahead_X0_toldKind : GoodIn wsX7_ahead (wsV RX7 177 RX0 yX0_toldKind wsX0_toldKind) := goodIn_app (goodIn_of _ (by decide +kernel)) ggX7_ahead_X0_toldKind
set_option maxRecDepth 20000 in
theorem ggX7_ahead_X7_isOfKind : GoodIn wsX7_ahead wsX7_isOfKind := goodIn_r _ [47] (by decide +kernel) (by decide +kernel)
set_option maxRecDepth 20000 in
theorem gX7_ahead_X7_isOfKind : GoodIn wsX7_ahead (va_wsS RX7 180 yX7_isOfKind wsX7_isOfKind) := goodIn_app (goodIn_of _ (by decide +kernel)) ggX7_ahead_X7_isOfKind
theorem dX7_ahead_0 : decode cX7_ahead 0 = .ok (.aload_n 0, 1) := by decide +kernel
theorem dX7_ahead_1 : decode cX7_ahead 1 = .ok (.iload_n 1, 1) := by decide +kernel
theorem dX7_ahead_2 : decode cX7_ahead 2 = .ok (.invokevirtual 137, 3) := by decide +kernel
theorem dX7_ahead_5 : decode cX7_ahead 5 = .ok (.astore_n 2, 1) := by decide +kernel
theorem dX7_ahead_6 : decode cX7_ahead 6 = .ok (.aload_n 2, 1) := by decide +kernel
theorem dX7_ahead_7 : decode cX7_ahead 7 = .ok (.ifnonnull 6, 3) := by decide +kernel
theorem dX7_ahead_10 : decode cX7_ahead 10 = .ok (.ldc 61, 2) := by decide +kernel
theorem dX7_ahead_12 : decode cX7_ahead 12 = .ok (.ireturn, 1) := by decide +kernel
theorem dX7_ahead_13 : decode cX7_ahead 13 = .ok (.aload_n 2, 1) := by decide +kernel
theorem dX7_ahead_14 : decode cX7_ahead 14 = .ok (.invokevirtual 177, 3) := by decide +kernel
theorem dX7_ahead_17 : decode cX7_ahead 17 = .ok (.iconst 1, 1) := by decide +kernel
theorem dX7_ahead_18 : decode cX7_ahead 18 = .ok (.invokestatic 180, 3) := by decide +kernel
theorem dX7_ahead_21 : decode cX7_ahead 21 = .ok (.ifCond .ne 6, 3) := by decide +kernel
theorem dX7_ahead_24 : decode cX7_ahead 24 = .ok (.ldc 184, 2) := by decide +kernel
theorem dX7_ahead_26 : decode cX7_ahead 26 = .ok (.ireturn, 1) := by decide +kernel
theorem dX7_ahead_27 : decode cX7_ahead 27 = .ok (.aload_n 2, 1) := by decide +kernel
theorem dX7_ahead_28 : decode cX7_ahead 28 = .ok (.getfield 156, 3) := by decide +kernel
theorem dX7_ahead_31 : decode cX7_ahead 31 = .ok (.getfield 87, 3) := by decide +kernel
theorem dX7_ahead_34 : decode cX7_ahead 34 = .ok (.bipush 10, 2) := by decide +kernel
theorem dX7_ahead_36 : decode cX7_ahead 36 = .ok (.iadd, 1) := by decide +kernel
theorem dX7_ahead_37 : decode cX7_ahead 37 = .ok (.iconst 1, 1) := by decide +kernel
theorem dX7_ahead_38 : decode cX7_ahead 38 = .ok (.isub, 1) := by decide +kernel
theorem dX7_ahead_39 : decode cX7_ahead 39 = .ok (.bipush 10, 2) := by decide +kernel
theorem dX7_ahead_41 : decode cX7_ahead 41 = .ok (.idiv, 1) := by decide +kernel
theorem dX7_ahead_42 : decode cX7_ahead 42 = .ok (.istore_n 3, 1) := by decide +kernel
theorem dX7_ahead_43 : decode cX7_ahead 43 = .ok (.iload_n 3, 1) := by decide +kernel
theorem dX7_ahead_44 : decode cX7_ahead 44 = .ok (.bipush 10, 2) := by decide +kernel
theorem dX7_ahead_46 : decode cX7_ahead 46 = .ok (.imul, 1) := by decide +kernel
theorem dX7_ahead_47 : decode cX7_ahead 47 = .ok (.ireturn, 1) := by decide +kernel
set_option maxRecDepth 20000 in
theorem ggX7_mark_X7_dialAt : GoodIn wsX7_mark wsX7_dialAt := goodIn_r _ [9, 3, 4, 10, 11, 12, 13, 14, 15, 16, 17, 8, 18, 19, 20, 21, 22, 23, 24, 25, 26, 27, 28, 29, 30, 31, 32, 33, 34, 35, 48, 49, 50, 51, 52, 53, 54, 55, 56, 57, 58] (by decide +kernel) (by decide +kernel)
set_option maxRecDepth 20000 in
theorem gX7_mark_X7_dialAt : GoodIn wsX7_mark (wsV RX7 137 RX7 yX7_dialAt wsX7_dialAt) := goodIn_app (goodIn_of _ (by decide +kernel)) ggX7_mark_X7_dialAt
set_option maxRecDepth 20000 in
theorem ggX7_mark_X7_within : GoodIn wsX7_mark wsX7_within := goodIn_r _ [18] (by decide +kernel) (by decide +kernel)
set_option maxRecDepth 20000 in
theorem gX7_mark_X7_within : GoodIn wsX7_mark (va_wsS RX7 62 yX7_within wsX7_within) := goodIn_app (goodIn_of _ (by decide +kernel)) ggX7_mark_X7_within
set_option maxRecDepth 20000 in
theorem ggX7_mark_Jx4a65c_size_8abf5 : GoodIn wsX7_mark wsJx4a65c_size_8abf5 := goodIn_r _ [14, 15, 56, 57, 58] (by decide +kernel) (by decide +kernel)
set_option maxRecDepth 20000 in
theorem gX7_mark_Jx4a65c_size_8abf5 : GoodIn wsX7_mark (wsV RX7 66 RJx4a65c yJx4a65c_size_8abf5 wsJx4a65c_size_8abf5) := goodIn_app (goodIn_of _ (by decide +kernel)) ggX7_mark_Jx4a65c_size_8abf5
set_option maxRecDepth 20000 in
theorem ggX7_mark_Jx4a65c_get_915e3 : GoodIn wsX7_mark wsJx4a65c_get_915e3 := goodIn_r _ [22, 15, 23, 24, 25, 26, 27, 28, 29, 30, 31, 32, 33, 13, 34, 35, 56, 57, 58] (by decide +kernel) (by decide +kernel)
set_option maxRecDepth 20000 in
theorem gX7_mark_Jx4a65c_get_915e3 : GoodIn wsX7_mark (wsV RX7 103 RJx4a65c yJx4a65c_get_915e3 wsJx4a65c_get_915e3) := goodIn_app (goodIn_of _ (by decide +kernel)) ggX7_mark_Jx4a65c_get_915e3
theorem dX7_mark_0 : decode cX7_mark 0 = .ok (.aload_n 0, 1) := by decide +kernel
theorem dX7_mark_1 : decode cX7_mark 1 = .ok (.iload_n 1, 1) := by decide +kernel
theorem dX7_mark_2 : decode cX7_mark 2 = .ok (.invokevirtual 137, 3) := by decide +kernel
theorem dX7_mark_5 : decode cX7_mark 5 = .ok (.astore_n 3, 1) := by decide +kernel
theorem dX7_mark_6 : decode cX7_mark 6 = .ok (.aload_n 3, 1) := by decide +kernel
theorem dX7_mark_7 : decode cX7_mark 7 = .ok (.ifnull 12, 3) := by decide +kernel
theorem dX7_mark_10 : decode cX7_mark 10 = .ok (.iload_n 2, 1) := by decide +kernel
theorem dX7_mark_11 : decode cX7_mark 11 = .ok (.iconst 0, 1) := by decide +kernel
theorem dX7_mark_12 : decode cX7_mark 12 = .ok (.iconst 1, 1) := by decide +kernel
theorem dX7_mark_13 : decode cX7_mark 13 = .ok (.invokestatic 62, 3) := by decide +kernel
theorem dX7_mark_16 : decode cX7_mark 16 = .ok (.ifCond .ne 6, 3) := by decide +kernel
theorem dX7_mark_19 : decode cX7_mark 19 = .ok (.ldc 61, 2) := by decide +kernel
theorem dX7_mark_21 : decode cX7_mark 21 = .ok (.ireturn, 1) := by decide +kernel
theorem dX7_mark_22 : decode cX7_mark 22 = .ok (.aload_n 3, 1) := by decide +kernel
theorem dX7_mark_23 : decode cX7_mark 23 = .ok (.iload_n 2, 1) := by decide +kernel
theorem dX7_mark_24 : decode cX7_mark 24 = .ok (.iconst 1, 1) := by decide +kernel
theorem dX7_mark_25 : decode cX7_mark 25 = .ok (.if_icmp .ne 7, 3) := by decide +kernel
theorem dX7_mark_28 : decode cX7_mark 28 = .ok (.iconst 1, 1) := by decide +kernel
theorem dX7_mark_29 : decode cX7_mark 29 = .ok (.goto 4, 3) := by decide +kernel
theorem dX7_mark_32 : decode cX7_mark 32 = .ok (.iconst 0, 1) := by decide +kernel
theorem dX7_mark_33 : decode cX7_mark 33 = .ok (.putfield 185, 3) := by decide +kernel
theorem dX7_mark_36 : decode cX7_mark 36 = .ok (.iconst 0, 1) := by decide +kernel
theorem dX7_mark_37 : decode cX7_mark 37 = .ok (.istore 4, 2) := by decide +kernel
theorem dX7_mark_39 : decode cX7_mark 39 = .ok (.iconst 0, 1) := by decide +kernel
theorem dX7_mark_40 : decode cX7_mark 40 = .ok (.istore 5, 2) := by decide +kernel
theorem dX7_mark_42 : decode cX7_mark 42 = .ok (.iload 5, 2) := by decide +kernel
theorem dX7_mark_44 : decode cX7_mark 44 = .ok (.aload_n 0, 1) := by decide +kernel
theorem dX7_mark_45 : decode cX7_mark 45 = .ok (.getfield 16, 3) := by decide +kernel
theorem dX7_mark_48 : decode cX7_mark 48 = .ok (.invokevirtual 66, 3) := by decide +kernel
theorem dX7_mark_51 : decode cX7_mark 51 = .ok (.if_icmp .ge 30, 3) := by decide +kernel
theorem dX7_mark_54 : decode cX7_mark 54 = .ok (.aload_n 0, 1) := by decide +kernel
theorem dX7_mark_55 : decode cX7_mark 55 = .ok (.getfield 16, 3) := by decide +kernel
theorem dX7_mark_58 : decode cX7_mark 58 = .ok (.iload 5, 2) := by decide +kernel
theorem dX7_mark_60 : decode cX7_mark 60 = .ok (.invokevirtual 103, 3) := by decide +kernel
theorem dX7_mark_63 : decode cX7_mark 63 = .ok (.checkcast 90, 3) := by decide +kernel
theorem dX7_mark_66 : decode cX7_mark 66 = .ok (.getfield 185, 3) := by decide +kernel
theorem dX7_mark_69 : decode cX7_mark 69 = .ok (.ifCond .eq 6, 3) := by decide +kernel
theorem dX7_mark_72 : decode cX7_mark 72 = .ok (.iinc 4 1, 3) := by decide +kernel
theorem dX7_mark_75 : decode cX7_mark 75 = .ok (.iinc 5 1, 3) := by decide +kernel
theorem dX7_mark_78 : decode cX7_mark 78 = .ok (.goto (-36), 3) := by decide +kernel
theorem dX7_mark_81 : decode cX7_mark 81 = .ok (.iload 4, 2) := by decide +kernel
theorem dX7_mark_83 : decode cX7_mark 83 = .ok (.ireturn, 1) := by decide +kernel
set_option maxRecDepth 20000 in
theorem ggX7_explains_X7_within : GoodIn wsX7_explains wsX7_within := goodIn_r _ [12] (by decide +kernel) (by decide +kernel)
set_option maxRecDepth 20000 in
theorem gX7_explains_X7_within : GoodIn wsX7_explains (va_wsS RX7 62 yX7_within wsX7_within) := goodIn_app (goodIn_of _ (by decide +kernel)) ggX7_explains_X7_within
set_option maxRecDepth 20000 in
theorem ggX7_explains_X1_find : GoodIn wsX7_explains wsX1_find := goodIn_r _ [17, 18, 19, 20, 21, 22, 23, 24, 25, 26, 27, 28, 29, 16, 30, 31, 32, 33, 34, 35, 36, 37, 38, 39, 40, 41, 42, 43, 44, 45, 46, 47, 48, 49, 50, 51, 52, 53, 54, 55, 56, 57, 58, 59, 60, 61, 62, 63, 64, 65, 66, 67, 68, 69, 70, 79, 80, 81, 82, 83, 84, 85, 86, 87, 88, 89, 90, 91, 92, 93, 94, 95, 96, 97, 98, 99, 100, 101, 102, 103] (by decide +kernel) (by decide +kernel)
set_option maxRecDepth 20000 in
theorem gX7_explains_X1_find : GoodIn wsX7_explains (wsV RX7 189 RX1 yX1_find wsX1_find) := goodIn_app (goodIn_of _ (by decide +kernel)) ggX7_explains_X1_find
theorem dX7_explains_0 : decode cX7_explains 0 = .ok (.iload_n 2, 1) := by decide +kernel
theorem dX7_explains_1 : decode cX7_explains 1 = .ok (.iconst 0, 1) := by decide +kernel
theorem dX7_explains_2 : decode cX7_explains 2 = .ok (.iconst 1, 1) := by decide +kernel
theorem dX7_explains_3 : decode cX7_explains 3 = .ok (.invokestatic 62, 3) := by decide +kernel
theorem dX7_explains_6 : decode cX7_explains 6 = .ok (.ifCond .ne 6, 3) := by decide +kernel
theorem dX7_explains_9 : decode cX7_explains 9 = .ok (.ldc 61, 2) := by decide +kernel
theorem dX7_explains_11 : decode cX7_explains 11 = .ok (.ireturn, 1) := by decide +kernel
theorem dX7_explains_12 : decode cX7_explains 12 = .ok (.aload_n 0, 1) := by decide +kernel
theorem dX7_explains_13 : decode cX7_explains 13 = .ok (.getfield 29, 3) := by decide +kernel
theorem dX7_explains_16 : decode cX7_explains 16 = .ok (.aload_n 0, 1) := by decide +kernel
theorem dX7_explains_17 : decode cX7_explains 17 = .ok (.getfield 10, 3) := by decide +kernel
theorem dX7_explains_20 : decode cX7_explains 20 = .ok (.aload_n 0, 1) := by decide +kernel
theorem dX7_explains_21 : decode cX7_explains 21 = .ok (.getfield 16, 3) := by decide +kernel
theorem dX7_explains_24 : decode cX7_explains 24 = .ok (.invokevirtual 189, 3) := by decide +kernel
theorem dX7_explains_27 : decode cX7_explains 27 = .ok (.iload_n 1, 1) := by decide +kernel
theorem dX7_explains_28 : decode cX7_explains 28 = .ok (.iconst 0, 1) := by decide +kernel
theorem dX7_explains_29 : decode cX7_explains 29 = .ok (.aload_n 0, 1) := by decide +kernel
theorem dX7_explains_30 : decode cX7_explains 30 = .ok (.getfield 29, 3) := by decide +kernel
theorem dX7_explains_33 : decode cX7_explains 33 = .ok (.getfield 193, 3) := by decide +kernel
theorem dX7_explains_36 : decode cX7_explains 36 = .ok (.iconst 1, 1) := by decide +kernel
theorem dX7_explains_37 : decode cX7_explains 37 = .ok (.isub, 1) := by decide +kernel
theorem dX7_explains_38 : decode cX7_explains 38 = .ok (.invokestatic 62, 3) := by decide +kernel
theorem dX7_explains_41 : decode cX7_explains 41 = .ok (.ifCond .ne 6, 3) := by decide +kernel
theorem dX7_explains_44 : decode cX7_explains 44 = .ok (.ldc 60, 2) := by decide +kernel
theorem dX7_explains_46 : decode cX7_explains 46 = .ok (.ireturn, 1) := by decide +kernel
theorem dX7_explains_47 : decode cX7_explains 47 = .ok (.iload_n 2, 1) := by decide +kernel
theorem dX7_explains_48 : decode cX7_explains 48 = .ok (.ifCond .ne 15, 3) := by decide +kernel
theorem dX7_explains_51 : decode cX7_explains 51 = .ok (.aload_n 0, 1) := by decide +kernel
theorem dX7_explains_52 : decode cX7_explains 52 = .ok (.getfield 29, 3) := by decide +kernel
theorem dX7_explains_55 : decode cX7_explains 55 = .ok (.getfield 196, 3) := by decide +kernel
theorem dX7_explains_58 : decode cX7_explains 58 = .ok (.iload_n 1, 1) := by decide +kernel
theorem dX7_explains_59 : decode cX7_explains 59 = .ok (.iaload, 1) := by decide +kernel
theorem dX7_explains_60 : decode cX7_explains 60 = .ok (.goto 12, 3) := by decide +kernel
theorem dX7_explains_63 : decode cX7_explains 63 = .ok (.aload_n 0, 1) := by decide +kernel
theorem dX7_explains_64 : decode cX7_explains 64 = .ok (.getfield 29, 3) := by decide +kernel
theorem dX7_explains_67 : decode cX7_explains 67 = .ok (.getfield 199, 3) := by decide +kernel
theorem dX7_explains_70 : decode cX7_explains 70 = .ok (.iload_n 1, 1) := by decide +kernel
theorem dX7_explains_71 : decode cX7_explains 71 = .ok (.iaload, 1) := by decide +kernel
theorem dX7_explains_72 : decode cX7_explains 72 = .ok (.ireturn, 1) := by decide +kernel
set_option maxRecDepth 20000 in
theorem ggX7_next_X1_find : GoodIn wsX7_next wsX1_find := goodIn_r _ [12, 13, 14, 15, 16, 17, 18, 19, 20, 21, 22, 23, 24, 11, 25, 26, 27, 28, 29, 30, 31, 32, 33, 34, 35, 36, 37, 38, 39, 40, 41, 42, 43, 44, 45, 46, 47, 48, 49, 50, 51, 52, 53, 54, 55, 56, 57, 58, 59, 60, 61, 62, 63, 64, 65, 85, 86, 87, 88, 101, 102, 103, 89, 90, 91, 92, 93, 94, 95, 96, 97, 98, 99, 100, 104, 105, 106, 107, 108, 109] (by decide +kernel) (by decide +kernel)
set_option maxRecDepth 20000 in
theorem gX7_next_X1_find : GoodIn wsX7_next (wsV RX7 189 RX1 yX1_find wsX1_find) := goodIn_app (goodIn_of _ (by decide +kernel)) ggX7_next_X1_find
set_option maxRecDepth 20000 in
theorem ggX7_next_Jx4a65c_size_8abf5 : GoodIn wsX7_next wsJx4a65c_size_8abf5 := goodIn_r _ [21, 22, 101, 102, 103] (by decide +kernel) (by decide +kernel)
set_option maxRecDepth 20000 in
theorem gX7_next_Jx4a65c_size_8abf5 : GoodIn wsX7_next (wsV RX7 66 RJx4a65c yJx4a65c_size_8abf5 wsJx4a65c_size_8abf5) := goodIn_app (goodIn_of _ (by decide +kernel)) ggX7_next_Jx4a65c_size_8abf5
set_option maxRecDepth 20000 in
theorem ggX7_next_Jx4a65c_get_915e3 : GoodIn wsX7_next wsJx4a65c_get_915e3 := goodIn_r _ [40, 22, 41, 42, 43, 44, 45, 46, 47, 48, 49, 50, 51, 20, 52, 53, 101, 102, 103] (by decide +kernel) (by decide +kernel)
set_option maxRecDepth 20000 in
theorem gX7_next_Jx4a65c_get_915e3 : GoodIn wsX7_next (wsV RX7 103 RJx4a65c yJx4a65c_get_915e3 wsJx4a65c_get_915e3) := goodIn_app (goodIn_of _ (by decide +kernel)) ggX7_next_Jx4a65c_get_915e3
set_option maxRecDepth 20000 in
theorem ggX7_next_X1_unlikePairs : GoodIn wsX7_next wsX1_unlikePairs := goodIn_r _ [71, 72, 13, 15, 16, 73, 74, 75, 76, 61, 62, 63, 57, 64, 65, 54, 55, 56, 58, 59, 60, 31, 32, 33, 85, 86, 87, 88, 104, 105, 106, 107, 108, 109] (by decide +kernel) (by decide +kernel)
set_option maxRecDepth 20000 in
theorem gX7_next_X1_unlikePairs : GoodIn wsX7_next (wsV RX7 202 RX1 yX1_unlikePairs wsX1_unlikePairs) := goodIn_app (goodIn_of _ (by decide +kernel)) ggX7_next_X1_unlikePairs
theorem dX7_next_0 : decode cX7_next 0 = .ok (.aload_n 0, 1) := by decide +kernel
theorem dX7_next_1 : decode cX7_next 1 = .ok (.getfield 29, 3) := by decide +kernel
theorem dX7_next_4 : decode cX7_next 4 = .ok (.aload_n 0, 1) := by decide +kernel
theorem dX7_next_5 : decode cX7_next 5 = .ok (.getfield 10, 3) := by decide +kernel
theorem dX7_next_8 : decode cX7_next 8 = .ok (.aload_n 0, 1) := by decide +kernel
theorem dX7_next_9 : decode cX7_next 9 = .ok (.getfield 16, 3) := by decide +kernel
theorem dX7_next_12 : decode cX7_next 12 = .ok (.invokevirtual 189, 3) := by decide +kernel
theorem dX7_next_15 : decode cX7_next 15 = .ok (.aload_n 0, 1) := by decide +kernel
theorem dX7_next_16 : decode cX7_next 16 = .ok (.getfield 29, 3) := by decide +kernel
theorem dX7_next_19 : decode cX7_next 19 = .ok (.getfield 193, 3) := by decide +kernel
theorem dX7_next_22 : decode cX7_next 22 = .ok (.iconst 2, 1) := by decide +kernel
theorem dX7_next_23 : decode cX7_next 23 = .ok (.if_icmp .ge 6, 3) := by decide +kernel
theorem dX7_next_26 : decode cX7_next 26 = .ok (.ldc 60, 2) := by decide +kernel
theorem dX7_next_28 : decode cX7_next 28 = .ok (.ireturn, 1) := by decide +kernel
theorem dX7_next_29 : decode cX7_next 29 = .ok (.ldc 60, 2) := by decide +kernel
theorem dX7_next_31 : decode cX7_next 31 = .ok (.istore_n 1, 1) := by decide +kernel
theorem dX7_next_32 : decode cX7_next 32 = .ok (.iconst (-1), 1) := by decide +kernel
theorem dX7_next_33 : decode cX7_next 33 = .ok (.istore_n 2, 1) := by decide +kernel
theorem dX7_next_34 : decode cX7_next 34 = .ok (.iconst 0, 1) := by decide +kernel
theorem dX7_next_35 : decode cX7_next 35 = .ok (.istore_n 3, 1) := by decide +kernel
theorem dX7_next_36 : decode cX7_next 36 = .ok (.iload_n 3, 1) := by decide +kernel
theorem dX7_next_37 : decode cX7_next 37 = .ok (.aload_n 0, 1) := by decide +kernel
theorem dX7_next_38 : decode cX7_next 38 = .ok (.getfield 16, 3) := by decide +kernel
theorem dX7_next_41 : decode cX7_next 41 = .ok (.invokevirtual 66, 3) := by decide +kernel
theorem dX7_next_44 : decode cX7_next 44 = .ok (.if_icmp .ge 43, 3) := by decide +kernel
theorem dX7_next_47 : decode cX7_next 47 = .ok (.aload_n 0, 1) := by decide +kernel
theorem dX7_next_48 : decode cX7_next 48 = .ok (.getfield 29, 3) := by decide +kernel
theorem dX7_next_51 : decode cX7_next 51 = .ok (.aload_n 0, 1) := by decide +kernel
theorem dX7_next_52 : decode cX7_next 52 = .ok (.getfield 16, 3) := by decide +kernel
theorem dX7_next_55 : decode cX7_next 55 = .ok (.iload_n 3, 1) := by decide +kernel
theorem dX7_next_56 : decode cX7_next 56 = .ok (.invokevirtual 103, 3) := by decide +kernel
theorem dX7_next_59 : decode cX7_next 59 = .ok (.checkcast 90, 3) := by decide +kernel
theorem dX7_next_62 : decode cX7_next 62 = .ok (.getfield 156, 3) := by decide +kernel
theorem dX7_next_65 : decode cX7_next 65 = .ok (.invokevirtual 202, 3) := by decide +kernel
theorem dX7_next_68 : decode cX7_next 68 = .ok (.istore 4, 2) := by decide +kernel
theorem dX7_next_70 : decode cX7_next 70 = .ok (.iload 4, 2) := by decide +kernel
theorem dX7_next_72 : decode cX7_next 72 = .ok (.iload_n 2, 1) := by decide +kernel
theorem dX7_next_73 : decode cX7_next 73 = .ok (.if_icmp .le 8, 3) := by decide +kernel
theorem dX7_next_76 : decode cX7_next 76 = .ok (.iload 4, 2) := by decide +kernel
theorem dX7_next_78 : decode cX7_next 78 = .ok (.istore_n 2, 1) := by decide +kernel
theorem dX7_next_79 : decode cX7_next 79 = .ok (.iload_n 3, 1) := by decide +kernel
theorem dX7_next_80 : decode cX7_next 80 = .ok (.istore_n 1, 1) := by decide +kernel
theorem dX7_next_81 : decode cX7_next 81 = .ok (.iinc 3 1, 3) := by decide +kernel
theorem dX7_next_84 : decode cX7_next 84 = .ok (.goto (-48), 3) := by decide +kernel
theorem dX7_next_87 : decode cX7_next 87 = .ok (.iload_n 1, 1) := by decide +kernel
theorem dX7_next_88 : decode cX7_next 88 = .ok (.ireturn, 1) := by decide +kernel
set_option maxRecDepth 20000 in
theorem ggX7_feed_X7_within : GoodIn wsX7_feed wsX7_within := goodIn_r _ [8] (by decide +kernel) (by decide +kernel)
set_option maxRecDepth 20000 in
theorem gX7_feed_X7_within : GoodIn wsX7_feed (va_wsS RX7 62 yX7_within wsX7_within) := goodIn_app (goodIn_of _ (by decide +kernel)) ggX7_feed_X7_within
set_option maxRecDepth 20000 in
theorem ggX7_feed_X5_append : GoodIn wsX7_feed wsX5_append := goodIn_r _ [13, 14, 15, 24, 25, 26, 27, 28] (by decide +kernel) (by decide +kernel)
set_option maxRecDepth 20000 in
theorem gX7_feed_X5_append : GoodIn wsX7_feed (wsV RX7 209 RX5 yX5_append wsX5_append) := goodIn_app (goodIn_of _ (by decide +kernel)) ggX7_feed_X5_append
theorem dX7_feed_0 : decode cX7_feed 0 = .ok (.iload_n 3, 1) := by decide +kernel
theorem dX7_feed_1 : decode cX7_feed 1 = .ok (.iconst 1, 1) := by decide +kernel
theorem dX7_feed_2 : decode cX7_feed 2 = .ok (.bipush 8, 2) := by decide +kernel
theorem dX7_feed_4 : decode cX7_feed 4 = .ok (.invokestatic 62, 3) := by decide +kernel
theorem dX7_feed_7 : decode cX7_feed 7 = .ok (.ifCond .ne 6, 3) := by decide +kernel
theorem dX7_feed_10 : decode cX7_feed 10 = .ok (.ldc 61, 2) := by decide +kernel
theorem dX7_feed_12 : decode cX7_feed 12 = .ok (.ireturn, 1) := by decide +kernel
theorem dX7_feed_13 : decode cX7_feed 13 = .ok (.aload_n 0, 1) := by decide +kernel
theorem dX7_feed_14 : decode cX7_feed 14 = .ok (.getfield 36, 3) := by decide +kernel
theorem dX7_feed_17 : decode cX7_feed 17 = .ok (.getfield 206, 3) := by decide +kernel
theorem dX7_feed_20 : decode cX7_feed 20 = .ok (.iload_n 3, 1) := by decide +kernel
theorem dX7_feed_21 : decode cX7_feed 21 = .ok (.iadd, 1) := by decide +kernel
theorem dX7_feed_22 : decode cX7_feed 22 = .ok (.sipush 300, 3) := by decide +kernel
theorem dX7_feed_25 : decode cX7_feed 25 = .ok (.if_icmp .le 6, 3) := by decide +kernel
theorem dX7_feed_28 : decode cX7_feed 28 = .ok (.ldc 70, 2) := by decide +kernel
theorem dX7_feed_30 : decode cX7_feed 30 = .ok (.ireturn, 1) := by decide +kernel
theorem dX7_feed_31 : decode cX7_feed 31 = .ok (.aload_n 0, 1) := by decide +kernel
theorem dX7_feed_32 : decode cX7_feed 32 = .ok (.getfield 36, 3) := by decide +kernel
theorem dX7_feed_35 : decode cX7_feed 35 = .ok (.lload_n 1, 1) := by decide +kernel
theorem dX7_feed_36 : decode cX7_feed 36 = .ok (.iload_n 3, 1) := by decide +kernel
theorem dX7_feed_37 : decode cX7_feed 37 = .ok (.invokevirtual 209, 3) := by decide +kernel
theorem dX7_feed_40 : decode cX7_feed 40 = .ok (.aload_n 0, 1) := by decide +kernel
theorem dX7_feed_41 : decode cX7_feed 41 = .ok (.getfield 36, 3) := by decide +kernel
theorem dX7_feed_44 : decode cX7_feed 44 = .ok (.getfield 206, 3) := by decide +kernel
theorem dX7_feed_47 : decode cX7_feed 47 = .ok (.ireturn, 1) := by decide +kernel
set_option maxRecDepth 20000 in
theorem ggX7_contracts_Jx4a65c_size_8abf5 : GoodIn wsX7_contracts wsJx4a65c_size_8abf5 := goodIn_r _ [12, 13, 193, 194, 195] (by decide +kernel) (by decide +kernel)
set_option maxRecDepth 20000 in
theorem gX7_contracts_Jx4a65c_size_8abf5 : GoodIn wsX7_contracts (wsV RX7 66 RJx4a65c yJx4a65c_size_8abf5 wsJx4a65c_size_8abf5) := goodIn_app (goodIn_of _ (by decide +kernel)) ggX7_contracts_Jx4a65c_size_8abf5
set_option maxRecDepth 20000 in
theorem ggX7_contracts_X4_readTape : GoodIn wsX7_contracts wsX4_readTape := goodIn_r _ [18, 19, 20, 21, 22, 23, 24, 25, 26, 27, 28, 29, 30, 31, 32, 33, 34, 35, 36, 37, 38, 39, 40, 41, 42, 43, 44, 45, 46, 47, 48, 49, 50, 51, 52, 53, 54, 55, 56, 57, 58, 59, 60, 17, 61, 62, 63, 64, 65, 66, 67, 68, 69, 70, 71, 72, 73, 74, 75, 76, 77, 78, 79, 80, 81, 82, 83, 84, 85, 86, 87, 88, 89, 90, 91, 92, 93, 94, 95, 96, 97, 98, 99, 100, 101, 102, 103, 104, 105, 106, 107, 108, 109, 110, 111, 112, 113, 114, 115, 116, 117, 118, 119, 120, 121, 122, 123, 124, 125, 126, 127, 128, 129, 130, 131, 132, 133, 134, 135, 136, 137, 138, 139, 140, 141, 142, 143, 186, 187, 188, 189, 190, 191, 192, 181, 182, 183, 184, 185] (by decide +kernel) (by decide +kernel)
set_option maxRecDepth 20000 in
theorem gX7_contracts_X4_readTape : GoodIn wsX7_contracts (wsV RX7 213 RX4 yX4_readTape wsX4_readTape) := goodIn_app (goodIn_of _ (by decide +kernel)) ggX7_contracts_X4_readTape
set_option maxRecDepth 20000 in
theorem ggX7_contracts_X4_putInForce : GoodIn wsX7_contracts wsX4_putInForce := goodIn_r _ [147, 19, 148, 62, 63, 149, 9, 10, 11, 12, 13, 150, 151, 152, 153, 154, 155, 156, 157, 158, 97, 98, 99, 159, 160, 161, 162, 163, 164, 165, 166, 167, 168, 169, 170, 171, 172, 186, 187, 188, 189, 190, 191, 192, 193, 194, 195, 196, 197, 198, 199, 200, 201, 202, 203, 204, 205, 206, 207] (by decide +kernel) (by decide +kernel)
set_option maxRecDepth 20000 in
theorem gX7_contracts_X4_putInForce : GoodIn wsX7_contracts (wsV RX7 221 RX4 yX4_putInForce wsX4_putInForce) := goodIn_app (goodIn_of _ (by decide +kernel)) ggX7_contracts_X4_putInForce
theorem dX7_contracts_0 : decode cX7_contracts 0 = .ok (.aload_n 0, 1) := by decide +kernel
theorem dX7_contracts_1 : decode cX7_contracts 1 = .ok (.getfield 45, 3) := by decide +kernel
theorem dX7_contracts_4 : decode cX7_contracts 4 = .ok (.aload_n 0, 1) := by decide +kernel
theorem dX7_contracts_5 : decode cX7_contracts 5 = .ok (.getfield 16, 3) := by decide +kernel
theorem dX7_contracts_8 : decode cX7_contracts 8 = .ok (.invokevirtual 66, 3) := by decide +kernel
theorem dX7_contracts_11 : decode cX7_contracts 11 = .ok (.invokevirtual 213, 3) := by decide +kernel
theorem dX7_contracts_14 : decode cX7_contracts 14 = .ok (.istore_n 1, 1) := by decide +kernel
theorem dX7_contracts_15 : decode cX7_contracts 15 = .ok (.aload_n 0, 1) := by decide +kernel
theorem dX7_contracts_16 : decode cX7_contracts 16 = .ok (.getfield 36, 3) := by decide +kernel
theorem dX7_contracts_19 : decode cX7_contracts 19 = .ok (.iconst 0, 1) := by decide +kernel
theorem dX7_contracts_20 : decode cX7_contracts 20 = .ok (.putfield 206, 3) := by decide +kernel
theorem dX7_contracts_23 : decode cX7_contracts 23 = .ok (.iload_n 1, 1) := by decide +kernel
theorem dX7_contracts_24 : decode cX7_contracts 24 = .ok (.ifCond .ne 14, 3) := by decide +kernel
theorem dX7_contracts_27 : decode cX7_contracts 27 = .ok (.ldc 217, 2) := by decide +kernel
theorem dX7_contracts_29 : decode cX7_contracts 29 = .ok (.aload_n 0, 1) := by decide +kernel
theorem dX7_contracts_30 : decode cX7_contracts 30 = .ok (.getfield 45, 3) := by decide +kernel
theorem dX7_contracts_33 : decode cX7_contracts 33 = .ok (.getfield 218, 3) := by decide +kernel
theorem dX7_contracts_36 : decode cX7_contracts 36 = .ok (.isub, 1) := by decide +kernel
theorem dX7_contracts_37 : decode cX7_contracts 37 = .ok (.ireturn, 1) := by decide +kernel
theorem dX7_contracts_38 : decode cX7_contracts 38 = .ok (.aload_n 0, 1) := by decide +kernel
theorem dX7_contracts_39 : decode cX7_contracts 39 = .ok (.getfield 45, 3) := by decide +kernel
theorem dX7_contracts_42 : decode cX7_contracts 42 = .ok (.aload_n 0, 1) := by decide +kernel
theorem dX7_contracts_43 : decode cX7_contracts 43 = .ok (.getfield 16, 3) := by decide +kernel
theorem dX7_contracts_46 : decode cX7_contracts 46 = .ok (.invokevirtual 221, 3) := by decide +kernel
theorem dX7_contracts_49 : decode cX7_contracts 49 = .ok (.aload_n 0, 1) := by decide +kernel
theorem dX7_contracts_50 : decode cX7_contracts 50 = .ok (.getfield 45, 3) := by decide +kernel
theorem dX7_contracts_53 : decode cX7_contracts 53 = .ok (.getfield 225, 3) := by decide +kernel
theorem dX7_contracts_56 : decode cX7_contracts 56 = .ok (.ireturn, 1) := by decide +kernel
theorem dX7_fault_0 : decode cX7_fault 0 = .ok (.aload_n 0, 1) := by decide +kernel
theorem dX7_fault_1 : decode cX7_fault 1 = .ok (.getfield 45, 3) := by decide +kernel
theorem dX7_fault_4 : decode cX7_fault 4 = .ok (.getfield 228, 3) := by decide +kernel
theorem dX7_fault_7 : decode cX7_fault 7 = .ok (.ireturn, 1) := by decide +kernel
set_option maxRecDepth 20000 in
theorem ggX7_owes_X7_dialAt : GoodIn wsX7_owes wsX7_dialAt := goodIn_r _ [7, 8, 9, 10, 11, 12, 13, 14, 15, 16, 17, 6, 18, 19, 20, 21, 22, 23, 24, 25, 26, 27, 28, 29, 30, 31, 32, 33, 34, 35, 48, 49, 50, 51, 52, 53, 54, 55, 56, 57, 58] (by decide +kernel) (by decide +kernel)
set_option maxRecDepth 20000 in
theorem gX7_owes_X7_dialAt : GoodIn wsX7_owes (wsV RX7 137 RX7 yX7_dialAt wsX7_dialAt) := goodIn_app (goodIn_of _ (by decide +kernel)) ggX7_owes_X7_dialAt
theorem dX7_owes_0 : decode cX7_owes 0 = .ok (.aload_n 0, 1) := by decide +kernel
theorem dX7_owes_1 : decode cX7_owes 1 = .ok (.iload_n 1, 1) := by decide +kernel
theorem dX7_owes_2 : decode cX7_owes 2 = .ok (.invokevirtual 137, 3) := by decide +kernel
theorem dX7_owes_5 : decode cX7_owes 5 = .ok (.astore_n 2, 1) := by decide +kernel
theorem dX7_owes_6 : decode cX7_owes 6 = .ok (.aload_n 2, 1) := by decide +kernel
theorem dX7_owes_7 : decode cX7_owes 7 = .ok (.ifnonnull 8, 3) := by decide +kernel
theorem dX7_owes_10 : decode cX7_owes 10 = .ok (.ldc 61, 2) := by decide +kernel
theorem dX7_owes_12 : decode cX7_owes 12 = .ok (.goto 7, 3) := by decide +kernel
theorem dX7_owes_15 : decode cX7_owes 15 = .ok (.aload_n 2, 1) := by decide +kernel
theorem dX7_owes_16 : decode cX7_owes 16 = .ok (.getfield 231, 3) := by decide +kernel
theorem dX7_owes_19 : decode cX7_owes 19 = .ok (.ireturn, 1) := by decide +kernel
set_option maxRecDepth 20000 in
theorem ggX7_kind_X7_dialAt : GoodIn wsX7_kind wsX7_dialAt := goodIn_r _ [6, 7, 8, 9, 10, 11, 12, 13, 14, 15, 16, 5, 17, 18, 19, 20, 21, 22, 23, 24, 25, 26, 27, 28, 29, 30, 31, 32, 33, 34, 42, 43, 44, 45, 46, 47, 48, 49, 50, 51, 52] (by decide +kernel) (by decide +kernel)
set_option maxRecDepth 20000 in
theorem gX7_kind_X7_dialAt : GoodIn wsX7_kind (wsV RX7 137 RX7 yX7_dialAt wsX7_dialAt) := goodIn_app (goodIn_of _ (by decide +kernel)) ggX7_kind_X7_dialAt
set_option maxRecDepth 20000 in
theorem ggX7_kind_X0_toldKind : GoodIn wsX7_kind wsX0_toldKind := goodIn_r _ [39, 40, 41, 53, 54, 55, 56, 57, 58, 59, 60, 61, 62, 63, 64] (by decide +kernel) (by decide +kernel)
set_option maxRecDepth 20000 in
theorem gX7_kind_X0_toldKind : GoodIn wsX7_kind (wsV RX7 177 RX0 yX0_toldKind wsX0_toldKind) := goodIn_app (goodIn_of _ (by decide +kernel)) ggX7_kind_X0_toldKind
theorem dX7_kind_0 : decode cX7_kind 0 = .ok (.aload_n 0, 1) := by decide +kernel
theorem dX7_kind_1 : decode cX7_kind 1 = .ok (.iload_n 1, 1) := by decide +kernel
theorem dX7_kind_2 : decode cX7_kind 2 = .ok (.invokevirtual 137, 3) := by decide +kernel
theorem dX7_kind_5 : decode cX7_kind 5 = .ok (.astore_n 2, 1) := by decide +kernel
theorem dX7_kind_6 : decode cX7_kind 6 = .ok (.aload_n 2, 1) := by decide +kernel
theorem dX7_kind_7 : decode cX7_kind 7 = .ok (.ifnonnull 8, 3) := by decide +kernel
theorem dX7_kind_10 : decode cX7_kind 10 = .ok (.ldc 61, 2) := by decide +kernel
theorem dX7_kind_12 : decode cX7_kind 12 = .ok (.goto 7, 3) := by decide +kernel
theorem dX7_kind_15 : decode cX7_kind 15 = .ok (.aload_n 2, 1) := by decide +kernel
theorem dX7_kind_16 : decode cX7_kind 16 = .ok (.invokevirtual 177, 3) := by decide +kernel
theorem dX7_kind_19 : decode cX7_kind 19 = .ok (.ireturn, 1) := by decide +kernel
set_option maxRecDepth 20000 in
theorem ggX7_as_X7_dialAt : GoodIn wsX7_as wsX7_dialAt := goodIn_r _ [8, 9, 10, 11, 12, 13, 14, 15, 16, 17, 18, 7, 19, 20, 21, 22, 23, 24, 25, 26, 27, 28, 29, 30, 31, 32, 33, 34, 35, 36, 59, 60, 61, 62, 63, 64, 65, 66, 67, 68, 69] (by decide +kernel) (by decide +kernel)
set_option maxRecDepth 20000 in
theorem gX7_as_X7_dialAt : GoodIn wsX7_as (wsV RX7 137 RX7 yX7_dialAt wsX7_dialAt) := goodIn_app (goodIn_of _ (by decide +kernel)) ggX7_as_X7_dialAt
set_option maxRecDepth 20000 in
theorem ggX7_as_X7_within : GoodIn wsX7_as wsX7_within := goodIn_r _ [19] (by decide +kernel) (by decide +kernel)
set_option maxRecDepth 20000 in
theorem gX7_as_X7_within : GoodIn wsX7_as (va_wsS RX7 62 yX7_within wsX7_within) := goodIn_app (goodIn_of _ (by decide +kernel)) ggX7_as_X7_within
set_option maxRecDepth 20000 in
theorem ggX7_as_X0_toldKind : GoodIn wsX7_as wsX0_toldKind := goodIn_r _ [41, 42, 43, 47, 48, 49, 50, 51, 52, 53, 54, 55, 56, 57, 58] (by decide +kernel) (by decide +kernel)
set_option maxRecDepth 20000 in
theorem gX7_as_X0_toldKind : GoodIn wsX7_as (wsV RX7 177 RX0 yX0_toldKind wsX0_toldKind) := goodIn_app (goodIn_of _ (by decide +kernel)) ggX7_as_X0_toldKind
set_option maxRecDepth 20000 in
theorem ggX7_as_X7_isOfKind : GoodIn wsX7_as wsX7_isOfKind := goodIn_r _ [46] (by decide +kernel) (by decide +kernel)
set_option maxRecDepth 20000 in
theorem gX7_as_X7_isOfKind : GoodIn wsX7_as (va_wsS RX7 180 yX7_isOfKind wsX7_isOfKind) := goodIn_app (goodIn_of _ (by decide +kernel)) ggX7_as_X7_isOfKind
theorem dX7_as_0 : decode cX7_as 0 = .ok (.aload_n 0, 1) := by decide +kernel
theorem dX7_as_1 : decode cX7_as 1 = .ok (.iload_n 1, 1) := by decide +kernel
theorem dX7_as_2 : decode cX7_as 2 = .ok (.invokevirtual 137, 3) := by decide +kernel
theorem dX7_as_5 : decode cX7_as 5 = .ok (.astore_n 3, 1) := by decide +kernel
theorem dX7_as_6 : decode cX7_as 6 = .ok (.aload_n 3, 1) := by decide +kernel
theorem dX7_as_7 : decode cX7_as 7 = .ok (.ifnull 12, 3) := by decide +kernel
theorem dX7_as_10 : decode cX7_as 10 = .ok (.iload_n 2, 1) := by decide +kernel
theorem dX7_as_11 : decode cX7_as 11 = .ok (.iconst 0, 1) := by decide +kernel
theorem dX7_as_12 : decode cX7_as 12 = .ok (.iconst 3, 1) := by decide +kernel
theorem dX7_as_13 : decode cX7_as 13 = .ok (.invokestatic 62, 3) := by decide +kernel
theorem dX7_as_16 : decode cX7_as 16 = .ok (.ifCond .ne 6, 3) := by decide +kernel
theorem dX7_as_19 : decode cX7_as 19 = .ok (.ldc 61, 2) := by decide +kernel
theorem dX7_as_21 : decode cX7_as 21 = .ok (.ireturn, 1) := by decide +kernel
theorem dX7_as_22 : decode cX7_as 22 = .ok (.aload_n 3, 1) := by decide +kernel
theorem dX7_as_23 : decode cX7_as 23 = .ok (.invokevirtual 177, 3) := by decide +kernel
theorem dX7_as_26 : decode cX7_as 26 = .ok (.iload_n 2, 1) := by decide +kernel
theorem dX7_as_27 : decode cX7_as 27 = .ok (.invokestatic 180, 3) := by decide +kernel
theorem dX7_as_30 : decode cX7_as 30 = .ok (.ifCond .eq 10, 3) := by decide +kernel
theorem dX7_as_33 : decode cX7_as 33 = .ok (.aload_n 3, 1) := by decide +kernel
theorem dX7_as_34 : decode cX7_as 34 = .ok (.getfield 144, 3) := by decide +kernel
theorem dX7_as_37 : decode cX7_as 37 = .ok (.goto 5, 3) := by decide +kernel
theorem dX7_as_40 : decode cX7_as 40 = .ok (.ldc 184, 2) := by decide +kernel
theorem dX7_as_42 : decode cX7_as 42 = .ok (.ireturn, 1) := by decide +kernel
set_option maxRecDepth 20000 in
theorem ggX7_ask_X7_dialAt : GoodIn wsX7_ask wsX7_dialAt := goodIn_r _ [8, 9, 10, 11, 12, 13, 14, 15, 16, 17, 18, 7, 19, 20, 21, 22, 23, 24, 25, 26, 27, 28, 29, 30, 31, 32, 33, 34, 35, 36, 89, 90, 91, 92, 93, 94, 95, 96, 99, 100, 101] (by decide +kernel) (by decide +kernel)
set_option maxRecDepth 20000 in
theorem gX7_ask_X7_dialAt : GoodIn wsX7_ask (wsV RX7 137 RX7 yX7_dialAt wsX7_dialAt) := goodIn_app (goodIn_of _ (by decide +kernel)) ggX7_ask_X7_dialAt
set_option maxRecDepth 20000 in
theorem ggX7_ask_X7_within : GoodIn wsX7_ask wsX7_within := goodIn_r _ [19] (by decide +kernel) (by decide +kernel)
set_option maxRecDepth 20000 in
theorem gX7_ask_X7_within : GoodIn wsX7_ask (va_wsS RX7 62 yX7_within wsX7_within) := goodIn_app (goodIn_of _ (by decide +kernel)) ggX7_ask_X7_within
set_option maxRecDepth 20000 in
theorem ggX7_ask_X7_weightOf : GoodIn wsX7_ask wsX7_weightOf := goodIn_r _ [40, 41, 42, 43, 44, 45, 46, 47, 48, 49, 50, 7, 51, 2, 52, 53, 54, 55, 56, 57, 58, 59, 60, 61, 62, 63, 64, 65, 66, 67, 68, 69, 70, 71, 102, 103, 104, 105, 106, 107, 108, 109, 110, 111, 112, 113, 89, 90, 91, 92, 93, 94, 95, 96, 97, 98] (by decide +kernel) (by decide +kernel)
set_option maxRecDepth 20000 in
theorem gX7_ask_X7_weightOf : GoodIn wsX7_ask (wsV RX7 235 RX7 yX7_weightOf wsX7_weightOf) := goodIn_app (goodIn_of _ (by decide +kernel)) ggX7_ask_X7_weightOf
set_option maxRecDepth 20000 in
theorem ggX7_ask_X7_markOf : GoodIn wsX7_ask wsX7_markOf := goodIn_r _ [75, 41, 42, 43, 44, 45, 46, 47, 76, 77, 78, 7, 79, 2, 52, 53, 54, 55, 56, 57, 58, 80, 81, 82, 83, 84, 37, 38, 39, 40, 48, 49, 50, 51, 59, 60, 61, 62, 63, 64, 65, 66, 67, 68, 69, 70, 71, 85, 86, 87, 88, 102, 103, 104, 105, 106, 107, 108, 109, 110, 111, 112, 113, 89, 90, 91, 92, 93, 94, 95, 96, 97, 98] (by decide +kernel) (by decide +kernel)
set_option maxRecDepth 20000 in
theorem gX7_ask_X7_markOf : GoodIn wsX7_ask (wsV RX7 239 RX7 yX7_markOf wsX7_markOf) := goodIn_app (goodIn_of _ (by decide +kernel)) ggX7_ask_X7_markOf
theorem dX7_ask_0 : decode cX7_ask 0 = .ok (.aload_n 0, 1) := by decide +kernel
theorem dX7_ask_1 : decode cX7_ask 1 = .ok (.iload_n 1, 1) := by decide +kernel
theorem dX7_ask_2 : decode cX7_ask 2 = .ok (.invokevirtual 137, 3) := by decide +kernel
theorem dX7_ask_5 : decode cX7_ask 5 = .ok (.astore_n 3, 1) := by decide +kernel
theorem dX7_ask_6 : decode cX7_ask 6 = .ok (.aload_n 3, 1) := by decide +kernel
theorem dX7_ask_7 : decode cX7_ask 7 = .ok (.ifnull 12, 3) := by decide +kernel
theorem dX7_ask_10 : decode cX7_ask 10 = .ok (.iload_n 2, 1) := by decide +kernel
theorem dX7_ask_11 : decode cX7_ask 11 = .ok (.iconst 0, 1) := by decide +kernel
theorem dX7_ask_12 : decode cX7_ask 12 = .ok (.iconst 1, 1) := by decide +kernel
theorem dX7_ask_13 : decode cX7_ask 13 = .ok (.invokestatic 62, 3) := by decide +kernel
theorem dX7_ask_16 : decode cX7_ask 16 = .ok (.ifCond .ne 6, 3) := by decide +kernel
theorem dX7_ask_19 : decode cX7_ask 19 = .ok (.ldc 61, 2) := by decide +kernel
theorem dX7_ask_21 : decode cX7_ask 21 = .ok (.ireturn, 1) := by decide +kernel
theorem dX7_ask_22 : decode cX7_ask 22 = .ok (.aload_n 0, 1) := by decide +kernel
theorem dX7_ask_23 : decode cX7_ask 23 = .ok (.getfield 52, 3) := by decide +kernel
theorem dX7_ask_26 : decode cX7_ask 26 = .ok (.iconst 0, 1) := by decide +kernel
theorem dX7_ask_27 : decode cX7_ask 27 = .ok (.putfield 234, 3) := by decide +kernel
theorem dX7_ask_30 : decode cX7_ask 30 = .ok (.iload_n 2, 1) := by decide +kernel
theorem dX7_ask_31 : decode cX7_ask 31 = .ok (.ifCond .ne 11, 3) := by decide +kernel
theorem dX7_ask_34 : decode cX7_ask 34 = .ok (.aload_n 0, 1) := by decide +kernel
theorem dX7_ask_35 : decode cX7_ask 35 = .ok (.aload_n 3, 1) := by decide +kernel
theorem dX7_ask_36 : decode cX7_ask 36 = .ok (.invokevirtual 235, 3) := by decide +kernel
theorem dX7_ask_39 : decode cX7_ask 39 = .ok (.goto 8, 3) := by decide +kernel
theorem dX7_ask_42 : decode cX7_ask 42 = .ok (.aload_n 0, 1) := by decide +kernel
theorem dX7_ask_43 : decode cX7_ask 43 = .ok (.aload_n 3, 1) := by decide +kernel
theorem dX7_ask_44 : decode cX7_ask 44 = .ok (.invokevirtual 239, 3) := by decide +kernel
theorem dX7_ask_47 : decode cX7_ask 47 = .ok (.ireturn, 1) := by decide +kernel
set_option maxRecDepth 20000 in
theorem ggX7_trace_X7_within : GoodIn wsX7_trace wsX7_within := goodIn_r _ [8] (by decide +kernel) (by decide +kernel)
set_option maxRecDepth 20000 in
theorem gX7_trace_X7_within : GoodIn wsX7_trace (va_wsS RX7 62 yX7_within wsX7_within) := goodIn_app (goodIn_of _ (by decide +kernel)) ggX7_trace_X7_within
theorem dX7_trace_0 : decode cX7_trace 0 = .ok (.iload_n 1, 1) := by decide +kernel
theorem dX7_trace_1 : decode cX7_trace 1 = .ok (.iconst 0, 1) := by decide +kernel
theorem dX7_trace_2 : decode cX7_trace 2 = .ok (.aload_n 0, 1) := by decide +kernel
theorem dX7_trace_3 : decode cX7_trace 3 = .ok (.getfield 52, 3) := by decide +kernel
theorem dX7_trace_6 : decode cX7_trace 6 = .ok (.getfield 234, 3) := by decide +kernel
theorem dX7_trace_9 : decode cX7_trace 9 = .ok (.iconst 1, 1) := by decide +kernel
theorem dX7_trace_10 : decode cX7_trace 10 = .ok (.isub, 1) := by decide +kernel
theorem dX7_trace_11 : decode cX7_trace 11 = .ok (.invokestatic 62, 3) := by decide +kernel
theorem dX7_trace_14 : decode cX7_trace 14 = .ok (.ifCond .eq 15, 3) := by decide +kernel
theorem dX7_trace_17 : decode cX7_trace 17 = .ok (.aload_n 0, 1) := by decide +kernel
theorem dX7_trace_18 : decode cX7_trace 18 = .ok (.getfield 52, 3) := by decide +kernel
theorem dX7_trace_21 : decode cX7_trace 21 = .ok (.getfield 242, 3) := by decide +kernel
theorem dX7_trace_24 : decode cX7_trace 24 = .ok (.iload_n 1, 1) := by decide +kernel
theorem dX7_trace_25 : decode cX7_trace 25 = .ok (.iaload, 1) := by decide +kernel
theorem dX7_trace_26 : decode cX7_trace 26 = .ok (.goto 5, 3) := by decide +kernel
theorem dX7_trace_29 : decode cX7_trace 29 = .ok (.ldc 60, 2) := by decide +kernel
theorem dX7_trace_31 : decode cX7_trace 31 = .ok (.ireturn, 1) := by decide +kernel
set_option maxRecDepth 20000 in
theorem ggX7_count_Jx4a65c_size_8abf5 : GoodIn wsX7_count wsJx4a65c_size_8abf5 := goodIn_r _ [11, 12, 73, 74, 75] (by decide +kernel) (by decide +kernel)
set_option maxRecDepth 20000 in
theorem gX7_count_Jx4a65c_size_8abf5 : GoodIn wsX7_count (wsV RX7 66 RJx4a65c yJx4a65c_size_8abf5 wsJx4a65c_size_8abf5) := goodIn_app (goodIn_of _ (by decide +kernel)) ggX7_count_Jx4a65c_size_8abf5
set_option maxRecDepth 20000 in
theorem ggX7_count_X7_countOfKind : GoodIn wsX7_count wsX7_countOfKind := goodIn_r _ [17, 2, 18, 7, 8, 9, 10, 11, 12, 19, 20, 21, 22, 23, 24, 25, 26, 27, 28, 29, 30, 31, 32, 33, 34, 35, 36, 37, 38, 39, 40, 41, 42, 43, 44, 16, 45, 60, 61, 62, 63, 64, 65, 66, 67, 73, 74, 75, 76, 77, 78, 79, 80, 81, 82, 83, 84, 85, 86, 87] (by decide +kernel) (by decide +kernel)
set_option maxRecDepth 20000 in
theorem gX7_count_X7_countOfKind : GoodIn wsX7_count (wsV RX7 245 RX7 yX7_countOfKind wsX7_countOfKind) := goodIn_app (goodIn_of _ (by decide +kernel)) ggX7_count_X7_countOfKind
set_option maxRecDepth 20000 in
theorem ggX7_count_X7_countContracts : GoodIn wsX7_count wsX7_countContracts := goodIn_r _ [49, 2, 18, 50, 7, 8, 9, 10, 11, 12, 19, 20, 21, 22, 23, 24, 25, 26, 27, 28, 29, 30, 31, 32, 33, 34, 35, 60, 61, 62, 63, 64, 65, 66, 67, 76, 77, 78, 79, 80, 81, 82, 83, 84, 85, 86, 87, 73, 74, 75] (by decide +kernel) (by decide +kernel)
set_option maxRecDepth 20000 in
theorem gX7_count_X7_countContracts : GoodIn wsX7_count (wsV RX7 249 RX7 yX7_countContracts wsX7_countContracts) := goodIn_app (goodIn_of _ (by decide +kernel)) ggX7_count_X7_countContracts
set_option maxRecDepth 20000 in
theorem ggX7_count_X7_allLates : GoodIn wsX7_count wsX7_allLates := goodIn_r _ [54, 2, 18, 55, 56, 57, 58, 59, 7, 8, 9, 10, 11, 12, 19, 20, 21, 22, 23, 24, 25, 26, 27, 28, 29, 30, 31, 32, 33, 34, 35, 60, 61, 62, 63, 64, 65, 66, 67, 76, 77, 78, 79, 80, 81, 82, 83, 84, 85, 86, 87, 73, 74, 75] (by decide +kernel) (by decide +kernel)
set_option maxRecDepth 20000 in
theorem gX7_count_X7_allLates : GoodIn wsX7_count (wsV RX7 252 RX7 yX7_allLates wsX7_allLates) := goodIn_app (goodIn_of _ (by decide +kernel)) ggX7_count_X7_allLates
theorem dX7_count_0 : decode cX7_count 0 = .ok (.iload_n 1, 1) := by decide +kernel
theorem dX7_count_1 : decode cX7_count 1 = .ok (.tableswitch 98 0 7 #[47, 55, 63, 69, 75, 80, 85, 90], 47) := by decide +kernel
theorem dX7_count_48 : decode cX7_count 48 = .ok (.aload_n 0, 1) := by decide +kernel
theorem dX7_count_49 : decode cX7_count 49 = .ok (.getfield 10, 3) := by decide +kernel
theorem dX7_count_52 : decode cX7_count 52 = .ok (.invokevirtual 66, 3) := by decide +kernel
theorem dX7_count_55 : decode cX7_count 55 = .ok (.ireturn, 1) := by decide +kernel
theorem dX7_count_56 : decode cX7_count 56 = .ok (.aload_n 0, 1) := by decide +kernel
theorem dX7_count_57 : decode cX7_count 57 = .ok (.getfield 16, 3) := by decide +kernel
theorem dX7_count_60 : decode cX7_count 60 = .ok (.invokevirtual 66, 3) := by decide +kernel
theorem dX7_count_63 : decode cX7_count 63 = .ok (.ireturn, 1) := by decide +kernel
theorem dX7_count_64 : decode cX7_count 64 = .ok (.aload_n 0, 1) := by decide +kernel
theorem dX7_count_65 : decode cX7_count 65 = .ok (.iconst 1, 1) := by decide +kernel
theorem dX7_count_66 : decode cX7_count 66 = .ok (.invokevirtual 245, 3) := by decide +kernel
theorem dX7_count_69 : decode cX7_count 69 = .ok (.ireturn, 1) := by decide +kernel
theorem dX7_count_70 : decode cX7_count 70 = .ok (.aload_n 0, 1) := by decide +kernel
theorem dX7_count_71 : decode cX7_count 71 = .ok (.iconst 3, 1) := by decide +kernel
theorem dX7_count_72 : decode cX7_count 72 = .ok (.invokevirtual 245, 3) := by decide +kernel
theorem dX7_count_75 : decode cX7_count 75 = .ok (.ireturn, 1) := by decide +kernel
theorem dX7_count_76 : decode cX7_count 76 = .ok (.aload_n 0, 1) := by decide +kernel
theorem dX7_count_77 : decode cX7_count 77 = .ok (.getfield 111, 3) := by decide +kernel
theorem dX7_count_80 : decode cX7_count 80 = .ok (.ireturn, 1) := by decide +kernel
theorem dX7_count_81 : decode cX7_count 81 = .ok (.aload_n 0, 1) := by decide +kernel
theorem dX7_count_82 : decode cX7_count 82 = .ok (.invokevirtual 249, 3) := by decide +kernel
theorem dX7_count_85 : decode cX7_count 85 = .ok (.ireturn, 1) := by decide +kernel
theorem dX7_count_86 : decode cX7_count 86 = .ok (.aload_n 0, 1) := by decide +kernel
theorem dX7_count_87 : decode cX7_count 87 = .ok (.invokevirtual 252, 3) := by decide +kernel
theorem dX7_count_90 : decode cX7_count 90 = .ok (.ireturn, 1) := by decide +kernel
theorem dX7_count_91 : decode cX7_count 91 = .ok (.aload_n 0, 1) := by decide +kernel
theorem dX7_count_92 : decode cX7_count 92 = .ok (.getfield 36, 3) := by decide +kernel
theorem dX7_count_95 : decode cX7_count 95 = .ok (.getfield 206, 3) := by decide +kernel
theorem dX7_count_98 : decode cX7_count 98 = .ok (.ireturn, 1) := by decide +kernel
theorem dX7_count_99 : decode cX7_count 99 = .ok (.ldc 61, 2) := by decide +kernel
theorem dX7_count_101 : decode cX7_count 101 = .ok (.ireturn, 1) := by decide +kernel
theorem dX7_within_0 : decode cX7_within 0 = .ok (.iload_n 0, 1) := by decide +kernel
theorem dX7_within_1 : decode cX7_within 1 = .ok (.iload_n 1, 1) := by decide +kernel
theorem dX7_within_2 : decode cX7_within 2 = .ok (.if_icmp .lt 12, 3) := by decide +kernel
theorem dX7_within_5 : decode cX7_within 5 = .ok (.iload_n 0, 1) := by decide +kernel
theorem dX7_within_6 : decode cX7_within 6 = .ok (.iload_n 2, 1) := by decide +kernel
theorem dX7_within_7 : decode cX7_within 7 = .ok (.if_icmp .gt 7, 3) := by decide +kernel
theorem dX7_within_10 : decode cX7_within 10 = .ok (.iconst 1, 1) := by decide +kernel
theorem dX7_within_11 : decode cX7_within 11 = .ok (.goto 4, 3) := by decide +kernel
theorem dX7_within_14 : decode cX7_within 14 = .ok (.iconst 0, 1) := by decide +kernel
theorem dX7_within_15 : decode cX7_within 15 = .ok (.ireturn, 1) := by decide +kernel
set_option maxRecDepth 20000 in
theorem ggX7_pipeAt_Jx4a65c_size_8abf5 : GoodIn wsX7_pipeAt wsJx4a65c_size_8abf5 := goodIn_r _ [7, 8, 38, 39, 40] (by decide +kernel) (by decide +kernel)
set_option maxRecDepth 20000 in
theorem gX7_pipeAt_Jx4a65c_size_8abf5 : GoodIn wsX7_pipeAt (wsV RX7 66 RJx4a65c yJx4a65c_size_8abf5 wsJx4a65c_size_8abf5) := goodIn_app (goodIn_of _ (by decide +kernel)) ggX7_pipeAt_Jx4a65c_size_8abf5
set_option maxRecDepth 20000 in
theorem ggX7_pipeAt_X7_within : GoodIn wsX7_pipeAt wsX7_within := goodIn_r _ [12] (by decide +kernel) (by decide +kernel)
set_option maxRecDepth 20000 in
theorem gX7_pipeAt_X7_within : GoodIn wsX7_pipeAt (va_wsS RX7 62 yX7_within wsX7_within) := goodIn_app (goodIn_of _ (by decide +kernel)) ggX7_pipeAt_X7_within
set_option maxRecDepth 20000 in
theorem ggX7_pipeAt_Jx4a65c_get_915e3 : GoodIn wsX7_pipeAt wsJx4a65c_get_915e3 := goodIn_r _ [16, 8, 17, 18, 19, 20, 21, 22, 23, 24, 25, 26, 27, 6, 28, 29, 38, 39, 40] (by decide +kernel) (by decide +kernel)
set_option maxRecDepth 20000 in
theorem gX7_pipeAt_Jx4a65c_get_915e3 : GoodIn wsX7_pipeAt (wsV RX7 103 RJx4a65c yJx4a65c_get_915e3 wsJx4a65c_get_915e3) := goodIn_app (goodIn_of _ (by decide +kernel)) ggX7_pipeAt_Jx4a65c_get_915e3
theorem dX7_pipeAt_0 : decode cX7_pipeAt 0 = .ok (.iload_n 1, 1) := by decide +kernel
theorem dX7_pipeAt_1 : decode cX7_pipeAt 1 = .ok (.iconst 0, 1) := by decide +kernel
theorem dX7_pipeAt_2 : decode cX7_pipeAt 2 = .ok (.aload_n 0, 1) := by decide +kernel
theorem dX7_pipeAt_3 : decode cX7_pipeAt 3 = .ok (.getfield 10, 3) := by decide +kernel
theorem dX7_pipeAt_6 : decode cX7_pipeAt 6 = .ok (.invokevirtual 66, 3) := by decide +kernel
theorem dX7_pipeAt_9 : decode cX7_pipeAt 9 = .ok (.iconst 1, 1) := by decide +kernel
theorem dX7_pipeAt_10 : decode cX7_pipeAt 10 = .ok (.isub, 1) := by decide +kernel
theorem dX7_pipeAt_11 : decode cX7_pipeAt 11 = .ok (.invokestatic 62, 3) := by decide +kernel
theorem dX7_pipeAt_14 : decode cX7_pipeAt 14 = .ok (.ifCond .eq 17, 3) := by decide +kernel
theorem dX7_pipeAt_17 : decode cX7_pipeAt 17 = .ok (.aload_n 0, 1) := by decide +kernel
theorem dX7_pipeAt_18 : decode cX7_pipeAt 18 = .ok (.getfield 10, 3) := by decide +kernel
theorem dX7_pipeAt_21 : decode cX7_pipeAt 21 = .ok (.iload_n 1, 1) := by decide +kernel
theorem dX7_pipeAt_22 : decode cX7_pipeAt 22 = .ok (.invokevirtual 103, 3) := by decide +kernel
theorem dX7_pipeAt_25 : decode cX7_pipeAt 25 = .ok (.checkcast 71, 3) := by decide +kernel
theorem dX7_pipeAt_28 : decode cX7_pipeAt 28 = .ok (.goto 4, 3) := by decide +kernel
theorem dX7_pipeAt_31 : decode cX7_pipeAt 31 = .ok (.aconst_null, 1) := by decide +kernel
theorem dX7_pipeAt_32 : decode cX7_pipeAt 32 = .ok (.areturn, 1) := by decide +kernel
set_option maxRecDepth 20000 in
theorem ggX7_dialAt_Jx4a65c_size_8abf5 : GoodIn wsX7_dialAt wsJx4a65c_size_8abf5 := goodIn_r _ [7, 8, 38, 39, 40] (by decide +kernel) (by decide +kernel)
set_option maxRecDepth 20000 in
theorem gX7_dialAt_Jx4a65c_size_8abf5 : GoodIn wsX7_dialAt (wsV RX7 66 RJx4a65c yJx4a65c_size_8abf5 wsJx4a65c_size_8abf5) := goodIn_app (goodIn_of _ (by decide +kernel)) ggX7_dialAt_Jx4a65c_size_8abf5
set_option maxRecDepth 20000 in
theorem ggX7_dialAt_X7_within : GoodIn wsX7_dialAt wsX7_within := goodIn_r _ [12] (by decide +kernel) (by decide +kernel)
set_option maxRecDepth 20000 in
theorem gX7_dialAt_X7_within : GoodIn wsX7_dialAt (va_wsS RX7 62 yX7_within wsX7_within) := goodIn_app (goodIn_of _ (by decide +kernel)) ggX7_dialAt_X7_within
set_option maxRecDepth 20000 in
theorem ggX7_dialAt_Jx4a65c_get_915e3 : GoodIn wsX7_dialAt wsJx4a65c_get_915e3 := goodIn_r _ [16, 8, 17, 18, 19, 20, 21, 22, 23, 24, 25, 26, 27, 6, 28, 29, 38, 39, 40] (by decide +kernel) (by decide +kernel)
set_option maxRecDepth 20000 in
theorem gX7_dialAt_Jx4a65c_get_915e3 : GoodIn wsX7_dialAt (wsV RX7 103 RJx4a65c yJx4a65c_get_915e3 wsJx4a65c_get_915e3) := goodIn_app (goodIn_of _ (by decide +kernel)) ggX7_dialAt_Jx4a65c_get_915e3
theorem dX7_dialAt_0 : decode cX7_dialAt 0 = .ok (.iload_n 1, 1) := by decide +kernel
theorem dX7_dialAt_1 : decode cX7_dialAt 1 = .ok (.iconst 0, 1) := by decide +kernel
theorem dX7_dialAt_2 : decode cX7_dialAt 2 = .ok (.aload_n 0, 1) := by decide +kernel
theorem dX7_dialAt_3 : decode cX7_dialAt 3 = .ok (.getfield 16, 3) := by decide +kernel
theorem dX7_dialAt_6 : decode cX7_dialAt 6 = .ok (.invokevirtual 66, 3) := by decide +kernel
theorem dX7_dialAt_9 : decode cX7_dialAt 9 = .ok (.iconst 1, 1) := by decide +kernel
theorem dX7_dialAt_10 : decode cX7_dialAt 10 = .ok (.isub, 1) := by decide +kernel
theorem dX7_dialAt_11 : decode cX7_dialAt 11 = .ok (.invokestatic 62, 3) := by decide +kernel
theorem dX7_dialAt_14 : decode cX7_dialAt 14 = .ok (.ifCond .eq 17, 3) := by decide +kernel
theorem dX7_dialAt_17 : decode cX7_dialAt 17 = .ok (.aload_n 0, 1) := by decide +kernel
theorem dX7_dialAt_18 : decode cX7_dialAt 18 = .ok (.getfield 16, 3) := by decide +kernel
theorem dX7_dialAt_21 : decode cX7_dialAt 21 = .ok (.iload_n 1, 1) := by decide +kernel
theorem dX7_dialAt_22 : decode cX7_dialAt 22 = .ok (.invokevirtual 103, 3) := by decide +kernel
theorem dX7_dialAt_25 : decode cX7_dialAt 25 = .ok (.checkcast 90, 3) := by decide +kernel
theorem dX7_dialAt_28 : decode cX7_dialAt 28 = .ok (.goto 4, 3) := by decide +kernel
theorem dX7_dialAt_31 : decode cX7_dialAt 31 = .ok (.aconst_null, 1) := by decide +kernel
theorem dX7_dialAt_32 : decode cX7_dialAt 32 = .ok (.areturn, 1) := by decide +kernel
theorem dX7_isOfKind_0 : decode cX7_isOfKind 0 = .ok (.iload_n 0, 1) := by decide +kernel
theorem dX7_isOfKind_1 : decode cX7_isOfKind 1 = .ok (.iload_n 1, 1) := by decide +kernel
theorem dX7_isOfKind_2 : decode cX7_isOfKind 2 = .ok (.if_icmp .eq 17, 3) := by decide +kernel
theorem dX7_isOfKind_5 : decode cX7_isOfKind 5 = .ok (.iload_n 1, 1) := by decide +kernel
theorem dX7_isOfKind_6 : decode cX7_isOfKind 6 = .ok (.ifCond .eq 13, 3) := by decide +kernel
theorem dX7_isOfKind_9 : decode cX7_isOfKind 9 = .ok (.iload_n 0, 1) := by decide +kernel
theorem dX7_isOfKind_10 : decode cX7_isOfKind 10 = .ok (.iconst 2, 1) := by decide +kernel
theorem dX7_isOfKind_11 : decode cX7_isOfKind 11 = .ok (.if_icmp .ne 12, 3) := by decide +kernel
theorem dX7_isOfKind_14 : decode cX7_isOfKind 14 = .ok (.iload_n 1, 1) := by decide +kernel
theorem dX7_isOfKind_15 : decode cX7_isOfKind 15 = .ok (.iconst 1, 1) := by decide +kernel
theorem dX7_isOfKind_16 : decode cX7_isOfKind 16 = .ok (.if_icmp .ne 7, 3) := by decide +kernel
theorem dX7_isOfKind_19 : decode cX7_isOfKind 19 = .ok (.iconst 1, 1) := by decide +kernel
theorem dX7_isOfKind_20 : decode cX7_isOfKind 20 = .ok (.goto 4, 3) := by decide +kernel
theorem dX7_isOfKind_23 : decode cX7_isOfKind 23 = .ok (.iconst 0, 1) := by decide +kernel
theorem dX7_isOfKind_24 : decode cX7_isOfKind 24 = .ok (.ireturn, 1) := by decide +kernel
set_option maxRecDepth 20000 in
theorem ggX7_mostWrongDial_Jx4a65c_size_8abf5 : GoodIn wsX7_mostWrongDial wsJx4a65c_size_8abf5 := goodIn_r _ [12, 13, 51, 52, 53] (by decide +kernel) (by decide +kernel)
set_option maxRecDepth 20000 in
theorem gX7_mostWrongDial_Jx4a65c_size_8abf5 : GoodIn wsX7_mostWrongDial (wsV RX7 66 RJx4a65c yJx4a65c_size_8abf5 wsJx4a65c_size_8abf5) := goodIn_app (goodIn_of _ (by decide +kernel)) ggX7_mostWrongDial_Jx4a65c_size_8abf5
set_option maxRecDepth 20000 in
theorem ggX7_mostWrongDial_Jx4a65c_get_915e3 : GoodIn wsX7_mostWrongDial wsJx4a65c_get_915e3 := goodIn_r _ [17, 13, 18, 19, 20, 21, 22, 23, 24, 25, 26, 27, 28, 11, 29, 30, 51, 52, 53] (by decide +kernel) (by decide +kernel)
set_option maxRecDepth 20000 in
theorem gX7_mostWrongDial_Jx4a65c_get_915e3 : GoodIn wsX7_mostWrongDial (wsV RX7 103 RJx4a65c yJx4a65c_get_915e3 wsJx4a65c_get_915e3) := goodIn_app (goodIn_of _ (by decide +kernel)) ggX7_mostWrongDial_Jx4a65c_get_915e3
theorem dX7_mostWrongDial_0 : decode cX7_mostWrongDial 0 = .ok (.aconst_null, 1) := by decide +kernel
theorem dX7_mostWrongDial_1 : decode cX7_mostWrongDial 1 = .ok (.astore_n 1, 1) := by decide +kernel
theorem dX7_mostWrongDial_2 : decode cX7_mostWrongDial 2 = .ok (.iconst 0, 1) := by decide +kernel
theorem dX7_mostWrongDial_3 : decode cX7_mostWrongDial 3 = .ok (.istore_n 2, 1) := by decide +kernel
theorem dX7_mostWrongDial_4 : decode cX7_mostWrongDial 4 = .ok (.iconst 0, 1) := by decide +kernel
theorem dX7_mostWrongDial_5 : decode cX7_mostWrongDial 5 = .ok (.istore_n 3, 1) := by decide +kernel
theorem dX7_mostWrongDial_6 : decode cX7_mostWrongDial 6 = .ok (.iload_n 3, 1) := by decide +kernel
theorem dX7_mostWrongDial_7 : decode cX7_mostWrongDial 7 = .ok (.aload_n 0, 1) := by decide +kernel
theorem dX7_mostWrongDial_8 : decode cX7_mostWrongDial 8 = .ok (.getfield 16, 3) := by decide +kernel
theorem dX7_mostWrongDial_11 : decode cX7_mostWrongDial 11 = .ok (.invokevirtual 66, 3) := by decide +kernel
theorem dX7_mostWrongDial_14 : decode cX7_mostWrongDial 14 = .ok (.if_icmp .ge 46, 3) := by decide +kernel
theorem dX7_mostWrongDial_17 : decode cX7_mostWrongDial 17 = .ok (.aload_n 0, 1) := by decide +kernel
theorem dX7_mostWrongDial_18 : decode cX7_mostWrongDial 18 = .ok (.getfield 16, 3) := by decide +kernel
theorem dX7_mostWrongDial_21 : decode cX7_mostWrongDial 21 = .ok (.iload_n 3, 1) := by decide +kernel
theorem dX7_mostWrongDial_22 : decode cX7_mostWrongDial 22 = .ok (.invokevirtual 103, 3) := by decide +kernel
theorem dX7_mostWrongDial_25 : decode cX7_mostWrongDial 25 = .ok (.checkcast 90, 3) := by decide +kernel
theorem dX7_mostWrongDial_28 : decode cX7_mostWrongDial 28 = .ok (.astore 4, 2) := by decide +kernel
theorem dX7_mostWrongDial_30 : decode cX7_mostWrongDial 30 = .ok (.aload 4, 2) := by decide +kernel
theorem dX7_mostWrongDial_32 : decode cX7_mostWrongDial 32 = .ok (.getfield 144, 3) := by decide +kernel
theorem dX7_mostWrongDial_35 : decode cX7_mostWrongDial 35 = .ok (.invokestatic 255, 3) := by decide +kernel
theorem dX7_mostWrongDial_38 : decode cX7_mostWrongDial 38 = .ok (.iload_n 2, 1) := by decide +kernel
theorem dX7_mostWrongDial_39 : decode cX7_mostWrongDial 39 = .ok (.if_icmp .le 15, 3) := by decide +kernel
theorem dX7_mostWrongDial_42 : decode cX7_mostWrongDial 42 = .ok (.aload 4, 2) := by decide +kernel
theorem dX7_mostWrongDial_44 : decode cX7_mostWrongDial 44 = .ok (.getfield 144, 3) := by decide +kernel
theorem dX7_mostWrongDial_47 : decode cX7_mostWrongDial 47 = .ok (.invokestatic 255, 3) := by decide +kernel
theorem dX7_mostWrongDial_50 : decode cX7_mostWrongDial 50 = .ok (.istore_n 2, 1) := by decide +kernel
theorem dX7_mostWrongDial_51 : decode cX7_mostWrongDial 51 = .ok (.aload 4, 2) := by decide +kernel
theorem dX7_mostWrongDial_53 : decode cX7_mostWrongDial 53 = .ok (.astore_n 1, 1) := by decide +kernel
theorem dX7_mostWrongDial_54 : decode cX7_mostWrongDial 54 = .ok (.iinc 3 1, 3) := by decide +kernel
theorem dX7_mostWrongDial_57 : decode cX7_mostWrongDial 57 = .ok (.goto (-51), 3) := by decide +kernel
theorem dX7_mostWrongDial_60 : decode cX7_mostWrongDial 60 = .ok (.aload_n 1, 1) := by decide +kernel
theorem dX7_mostWrongDial_61 : decode cX7_mostWrongDial 61 = .ok (.areturn, 1) := by decide +kernel
set_option maxRecDepth 20000 in
theorem ggX7_countOfKind_Jx4a65c_size_8abf5 : GoodIn wsX7_countOfKind wsJx4a65c_size_8abf5 := goodIn_r _ [7, 8, 45, 46, 47] (by decide +kernel) (by decide +kernel)
set_option maxRecDepth 20000 in
theorem gX7_countOfKind_Jx4a65c_size_8abf5 : GoodIn wsX7_countOfKind (wsV RX7 66 RJx4a65c yJx4a65c_size_8abf5 wsJx4a65c_size_8abf5) := goodIn_app (goodIn_of _ (by decide +kernel)) ggX7_countOfKind_Jx4a65c_size_8abf5
set_option maxRecDepth 20000 in
theorem ggX7_countOfKind_Jx4a65c_get_915e3 : GoodIn wsX7_countOfKind wsJx4a65c_get_915e3 := goodIn_r _ [12, 8, 13, 14, 15, 16, 17, 18, 19, 20, 21, 22, 23, 6, 24, 25, 45, 46, 47] (by decide +kernel) (by decide +kernel)
set_option maxRecDepth 20000 in
theorem gX7_countOfKind_Jx4a65c_get_915e3 : GoodIn wsX7_countOfKind (wsV RX7 103 RJx4a65c yJx4a65c_get_915e3 wsJx4a65c_get_915e3) := goodIn_app (goodIn_of _ (by decide +kernel)) ggX7_countOfKind_Jx4a65c_get_915e3
set_option maxRecDepth 20000 in
theorem ggX7_countOfKind_X0_toldKind : GoodIn wsX7_countOfKind wsX0_toldKind := goodIn_r _ [30, 31, 32, 48, 49, 50, 51, 52, 53, 54, 55, 56, 57, 58, 59] (by decide +kernel) (by decide +kernel)
set_option maxRecDepth 20000 in
theorem gX7_countOfKind_X0_toldKind : GoodIn wsX7_countOfKind (wsV RX7 177 RX0 yX0_toldKind wsX0_toldKind) := goodIn_app (goodIn_of _ (by decide +kernel)) ggX7_countOfKind_X0_toldKind
set_option maxRecDepth 20000 in
theorem ggX7_countOfKind_X7_isOfKind : GoodIn wsX7_countOfKind wsX7_isOfKind := goodIn_r _ [36] (by decide +kernel) (by decide +kernel)
set_option maxRecDepth 20000 in
theorem gX7_countOfKind_X7_isOfKind : GoodIn wsX7_countOfKind (va_wsS RX7 180 yX7_isOfKind wsX7_isOfKind) := goodIn_app (goodIn_of _ (by decide +kernel)) ggX7_countOfKind_X7_isOfKind
theorem dX7_countOfKind_0 : decode cX7_countOfKind 0 = .ok (.iconst 0, 1) := by decide +kernel
theorem dX7_countOfKind_1 : decode cX7_countOfKind 1 = .ok (.istore_n 2, 1) := by decide +kernel
theorem dX7_countOfKind_2 : decode cX7_countOfKind 2 = .ok (.iconst 0, 1) := by decide +kernel
theorem dX7_countOfKind_3 : decode cX7_countOfKind 3 = .ok (.istore_n 3, 1) := by decide +kernel
theorem dX7_countOfKind_4 : decode cX7_countOfKind 4 = .ok (.iload_n 3, 1) := by decide +kernel
theorem dX7_countOfKind_5 : decode cX7_countOfKind 5 = .ok (.aload_n 0, 1) := by decide +kernel
theorem dX7_countOfKind_6 : decode cX7_countOfKind 6 = .ok (.getfield 16, 3) := by decide +kernel
theorem dX7_countOfKind_9 : decode cX7_countOfKind 9 = .ok (.invokevirtual 66, 3) := by decide +kernel
theorem dX7_countOfKind_12 : decode cX7_countOfKind 12 = .ok (.if_icmp .ge 33, 3) := by decide +kernel
theorem dX7_countOfKind_15 : decode cX7_countOfKind 15 = .ok (.aload_n 0, 1) := by decide +kernel
theorem dX7_countOfKind_16 : decode cX7_countOfKind 16 = .ok (.getfield 16, 3) := by decide +kernel
theorem dX7_countOfKind_19 : decode cX7_countOfKind 19 = .ok (.iload_n 3, 1) := by decide +kernel
theorem dX7_countOfKind_20 : decode cX7_countOfKind 20 = .ok (.invokevirtual 103, 3) := by decide +kernel
theorem dX7_countOfKind_23 : decode cX7_countOfKind 23 = .ok (.checkcast 90, 3) := by decide +kernel
theorem dX7_countOfKind_26 : decode cX7_countOfKind 26 = .ok (.invokevirtual 177, 3) := by decide +kernel
theorem dX7_countOfKind_29 : decode cX7_countOfKind 29 = .ok (.iload_n 1, 1) := by decide +kernel
theorem dX7_countOfKind_30 : decode cX7_countOfKind 30 = .ok (.invokestatic 180, 3) := by decide +kernel
theorem dX7_countOfKind_33 : decode cX7_countOfKind 33 = .ok (.ifCond .eq 6, 3) := by decide +kernel
theorem dX7_countOfKind_36 : decode cX7_countOfKind 36 = .ok (.iinc 2 1, 3) := by decide +kernel
theorem dX7_countOfKind_39 : decode cX7_countOfKind 39 = .ok (.iinc 3 1, 3) := by decide +kernel
theorem dX7_countOfKind_42 : decode cX7_countOfKind 42 = .ok (.goto (-38), 3) := by decide +kernel
theorem dX7_countOfKind_45 : decode cX7_countOfKind 45 = .ok (.iload_n 2, 1) := by decide +kernel
theorem dX7_countOfKind_46 : decode cX7_countOfKind 46 = .ok (.ireturn, 1) := by decide +kernel
set_option maxRecDepth 20000 in
theorem ggX7_countContracts_Jx4a65c_size_8abf5 : GoodIn wsX7_countContracts wsJx4a65c_size_8abf5 := goodIn_r _ [8, 9, 47, 48, 49] (by decide +kernel) (by decide +kernel)
set_option maxRecDepth 20000 in
theorem gX7_countContracts_Jx4a65c_size_8abf5 : GoodIn wsX7_countContracts (wsV RX7 66 RJx4a65c yJx4a65c_size_8abf5 wsJx4a65c_size_8abf5) := goodIn_app (goodIn_of _ (by decide +kernel)) ggX7_countContracts_Jx4a65c_size_8abf5
set_option maxRecDepth 20000 in
theorem ggX7_countContracts_Jx4a65c_get_915e3 : GoodIn wsX7_countContracts wsJx4a65c_get_915e3 := goodIn_r _ [13, 9, 14, 15, 16, 17, 18, 19, 20, 21, 22, 23, 24, 7, 25, 26, 47, 48, 49] (by decide +kernel) (by decide +kernel)
set_option maxRecDepth 20000 in
theorem gX7_countContracts_Jx4a65c_get_915e3 : GoodIn wsX7_countContracts (wsV RX7 103 RJx4a65c yJx4a65c_get_915e3 wsJx4a65c_get_915e3) := goodIn_app (goodIn_of _ (by decide +kernel)) ggX7_countContracts_Jx4a65c_get_915e3
theorem dX7_countContracts_0 : decode cX7_countContracts 0 = .ok (.iconst 0, 1) := by decide +kernel
theorem dX7_countContracts_1 : decode cX7_countContracts 1 = .ok (.istore_n 1, 1) := by decide +kernel
theorem dX7_countContracts_2 : decode cX7_countContracts 2 = .ok (.iconst 0, 1) := by decide +kernel
theorem dX7_countContracts_3 : decode cX7_countContracts 3 = .ok (.istore_n 2, 1) := by decide +kernel
theorem dX7_countContracts_4 : decode cX7_countContracts 4 = .ok (.iload_n 2, 1) := by decide +kernel
theorem dX7_countContracts_5 : decode cX7_countContracts 5 = .ok (.aload_n 0, 1) := by decide +kernel
theorem dX7_countContracts_6 : decode cX7_countContracts 6 = .ok (.getfield 16, 3) := by decide +kernel
theorem dX7_countContracts_9 : decode cX7_countContracts 9 = .ok (.invokevirtual 66, 3) := by decide +kernel
theorem dX7_countContracts_12 : decode cX7_countContracts 12 = .ok (.if_icmp .ge 29, 3) := by decide +kernel
theorem dX7_countContracts_15 : decode cX7_countContracts 15 = .ok (.aload_n 0, 1) := by decide +kernel
theorem dX7_countContracts_16 : decode cX7_countContracts 16 = .ok (.getfield 16, 3) := by decide +kernel
theorem dX7_countContracts_19 : decode cX7_countContracts 19 = .ok (.iload_n 2, 1) := by decide +kernel
theorem dX7_countContracts_20 : decode cX7_countContracts 20 = .ok (.invokevirtual 103, 3) := by decide +kernel
theorem dX7_countContracts_23 : decode cX7_countContracts 23 = .ok (.checkcast 90, 3) := by decide +kernel
theorem dX7_countContracts_26 : decode cX7_countContracts 26 = .ok (.getfield 260, 3) := by decide +kernel
theorem dX7_countContracts_29 : decode cX7_countContracts 29 = .ok (.ifCond .eq 6, 3) := by decide +kernel
theorem dX7_countContracts_32 : decode cX7_countContracts 32 = .ok (.iinc 1 1, 3) := by decide +kernel
theorem dX7_countContracts_35 : decode cX7_countContracts 35 = .ok (.iinc 2 1, 3) := by decide +kernel
theorem dX7_countContracts_38 : decode cX7_countContracts 38 = .ok (.goto (-34), 3) := by decide +kernel
theorem dX7_countContracts_41 : decode cX7_countContracts 41 = .ok (.iload_n 1, 1) := by decide +kernel
theorem dX7_countContracts_42 : decode cX7_countContracts 42 = .ok (.ireturn, 1) := by decide +kernel
set_option maxRecDepth 20000 in
theorem ggX7_allLates_Jx4a65c_size_8abf5 : GoodIn wsX7_allLates wsJx4a65c_size_8abf5 := goodIn_r _ [12, 13, 51, 52, 53] (by decide +kernel) (by decide +kernel)
set_option maxRecDepth 20000 in
theorem gX7_allLates_Jx4a65c_size_8abf5 : GoodIn wsX7_allLates (wsV RX7 66 RJx4a65c yJx4a65c_size_8abf5 wsJx4a65c_size_8abf5) := goodIn_app (goodIn_of _ (by decide +kernel)) ggX7_allLates_Jx4a65c_size_8abf5
set_option maxRecDepth 20000 in
theorem ggX7_allLates_Jx4a65c_get_915e3 : GoodIn wsX7_allLates wsJx4a65c_get_915e3 := goodIn_r _ [17, 13, 18, 19, 20, 21, 22, 23, 24, 25, 26, 27, 28, 11, 29, 30, 51, 52, 53] (by decide +kernel) (by decide +kernel)
set_option maxRecDepth 20000 in
theorem gX7_allLates_Jx4a65c_get_915e3 : GoodIn wsX7_allLates (wsV RX7 103 RJx4a65c yJx4a65c_get_915e3 wsJx4a65c_get_915e3) := goodIn_app (goodIn_of _ (by decide +kernel)) ggX7_allLates_Jx4a65c_get_915e3
theorem dX7_allLates_0 : decode cX7_allLates 0 = .ok (.iconst 0, 1) := by decide +kernel
theorem dX7_allLates_1 : decode cX7_allLates 1 = .ok (.istore_n 1, 1) := by decide +kernel
theorem dX7_allLates_2 : decode cX7_allLates 2 = .ok (.iconst 0, 1) := by decide +kernel
theorem dX7_allLates_3 : decode cX7_allLates 3 = .ok (.istore_n 2, 1) := by decide +kernel
theorem dX7_allLates_4 : decode cX7_allLates 4 = .ok (.iload_n 2, 1) := by decide +kernel
theorem dX7_allLates_5 : decode cX7_allLates 5 = .ok (.aload_n 0, 1) := by decide +kernel
theorem dX7_allLates_6 : decode cX7_allLates 6 = .ok (.getfield 16, 3) := by decide +kernel
theorem dX7_allLates_9 : decode cX7_allLates 9 = .ok (.invokevirtual 66, 3) := by decide +kernel
theorem dX7_allLates_12 : decode cX7_allLates 12 = .ok (.if_icmp .ge 29, 3) := by decide +kernel
theorem dX7_allLates_15 : decode cX7_allLates 15 = .ok (.iload_n 1, 1) := by decide +kernel
theorem dX7_allLates_16 : decode cX7_allLates 16 = .ok (.aload_n 0, 1) := by decide +kernel
theorem dX7_allLates_17 : decode cX7_allLates 17 = .ok (.getfield 16, 3) := by decide +kernel
theorem dX7_allLates_20 : decode cX7_allLates 20 = .ok (.iload_n 2, 1) := by decide +kernel
theorem dX7_allLates_21 : decode cX7_allLates 21 = .ok (.invokevirtual 103, 3) := by decide +kernel
theorem dX7_allLates_24 : decode cX7_allLates 24 = .ok (.checkcast 90, 3) := by decide +kernel
theorem dX7_allLates_27 : decode cX7_allLates 27 = .ok (.getfield 144, 3) := by decide +kernel
theorem dX7_allLates_30 : decode cX7_allLates 30 = .ok (.invokestatic 255, 3) := by decide +kernel
theorem dX7_allLates_33 : decode cX7_allLates 33 = .ok (.iadd, 1) := by decide +kernel
theorem dX7_allLates_34 : decode cX7_allLates 34 = .ok (.istore_n 1, 1) := by decide +kernel
theorem dX7_allLates_35 : decode cX7_allLates 35 = .ok (.iinc 2 1, 3) := by decide +kernel
theorem dX7_allLates_38 : decode cX7_allLates 38 = .ok (.goto (-34), 3) := by decide +kernel
theorem dX7_allLates_41 : decode cX7_allLates 41 = .ok (.iload_n 1, 1) := by decide +kernel
theorem dX7_allLates_42 : decode cX7_allLates 42 = .ok (.ireturn, 1) := by decide +kernel
set_option maxRecDepth 20000 in
theorem ggX7_weightOf_X0_toldKind : GoodIn wsX7_weightOf wsX0_toldKind := goodIn_r _ [5, 6, 7, 34, 35, 36, 37, 38, 39, 40, 41, 42, 43, 44, 45] (by decide +kernel) (by decide +kernel)
set_option maxRecDepth 20000 in
theorem gX7_weightOf_X0_toldKind : GoodIn wsX7_weightOf (wsV RX7 177 RX0 yX0_toldKind wsX0_toldKind) := goodIn_app (goodIn_of _ (by decide +kernel)) ggX7_weightOf_X0_toldKind
set_option maxRecDepth 20000 in
theorem ggX7_weightOf_X7_body11 : GoodIn wsX7_weightOf wsX7_body11 := goodIn_r _ [12, 13, 14, 15, 16, 17, 18, 19, 20, 21, 22, 23, 11, 24, 25, 46, 47, 48, 49, 50, 51, 52, 53, 54, 55, 34, 35, 36, 37, 38, 39, 40, 41, 42, 43, 44, 45] (by decide +kernel) (by decide +kernel)
set_option maxRecDepth 20000 in
theorem gX7_weightOf_X7_body11 : GoodIn wsX7_weightOf (wsV RX7 263 RX7 yX7_body11 wsX7_body11) := goodIn_app (goodIn_of _ (by decide +kernel)) ggX7_weightOf_X7_body11
set_option maxRecDepth 20000 in
theorem ggX7_weightOf_X7_body12 : GoodIn wsX7_weightOf wsX7_body12 := goodIn_r _ [29, 13, 14, 15, 16, 17, 18, 19, 20, 8, 9, 10, 11, 12, 21, 22, 23, 24, 25, 46, 47, 48, 49, 50, 51, 52, 53, 54, 55, 34, 35, 36, 37, 38, 39, 40, 41, 42, 43, 44, 45] (by decide +kernel) (by decide +kernel)
set_option maxRecDepth 20000 in
theorem gX7_weightOf_X7_body12 : GoodIn wsX7_weightOf (wsV RX7 266 RX7 yX7_body12 wsX7_body12) := goodIn_app (goodIn_of _ (by decide +kernel)) ggX7_weightOf_X7_body12
set_option maxRecDepth 20000 in
theorem ggX7_weightOf_X7_body13 : GoodIn wsX7_weightOf wsX7_body13 := goodIn_r _ [33, 13, 14, 15, 16, 17, 18, 19, 20, 21, 22, 23, 11, 24, 25, 46, 47, 48, 49, 50, 51, 52, 53, 54, 55, 34, 35, 36, 37, 38, 39, 40, 41, 42, 43, 44, 45] (by decide +kernel) (by decide +kernel)
set_option maxRecDepth 20000 in
theorem gX7_weightOf_X7_body13 : GoodIn wsX7_weightOf (wsV RX7 269 RX7 yX7_body13 wsX7_body13) := goodIn_app (goodIn_of _ (by decide +kernel)) ggX7_weightOf_X7_body13
set_option maxRecDepth 20000 in
theorem ggX7_weightOf_X7_body10 : GoodIn wsX7_weightOf wsX7_body10 := goodIn_r _ [24, 13, 25, 14, 15, 16, 17, 18, 19, 20, 46, 47, 48, 49, 50, 51, 52, 53, 34, 35, 36, 37, 38, 39, 40, 41, 42, 43, 44, 45, 54, 55] (by decide +kernel) (by decide +kernel)
set_option maxRecDepth 20000 in
theorem gX7_weightOf_X7_body10 : GoodIn wsX7_weightOf (wsV RX7 272 RX7 yX7_body10 wsX7_body10) := goodIn_app (goodIn_of _ (by decide +kernel)) ggX7_weightOf_X7_body10
theorem dX7_weightOf_0 : decode cX7_weightOf 0 = .ok (.aload_n 1, 1) := by decide +kernel
theorem dX7_weightOf_1 : decode cX7_weightOf 1 = .ok (.invokevirtual 177, 3) := by decide +kernel
theorem dX7_weightOf_4 : decode cX7_weightOf 4 = .ok (.tableswitch 46 1 3 #[28, 34, 40], 28) := by decide +kernel
theorem dX7_weightOf_32 : decode cX7_weightOf 32 = .ok (.aload_n 0, 1) := by decide +kernel
theorem dX7_weightOf_33 : decode cX7_weightOf 33 = .ok (.aload_n 1, 1) := by decide +kernel
theorem dX7_weightOf_34 : decode cX7_weightOf 34 = .ok (.invokevirtual 263, 3) := by decide +kernel
theorem dX7_weightOf_37 : decode cX7_weightOf 37 = .ok (.ireturn, 1) := by decide +kernel
theorem dX7_weightOf_38 : decode cX7_weightOf 38 = .ok (.aload_n 0, 1) := by decide +kernel
theorem dX7_weightOf_39 : decode cX7_weightOf 39 = .ok (.aload_n 1, 1) := by decide +kernel
theorem dX7_weightOf_40 : decode cX7_weightOf 40 = .ok (.invokevirtual 266, 3) := by decide +kernel
theorem dX7_weightOf_43 : decode cX7_weightOf 43 = .ok (.ireturn, 1) := by decide +kernel
theorem dX7_weightOf_44 : decode cX7_weightOf 44 = .ok (.aload_n 0, 1) := by decide +kernel
theorem dX7_weightOf_45 : decode cX7_weightOf 45 = .ok (.aload_n 1, 1) := by decide +kernel
theorem dX7_weightOf_46 : decode cX7_weightOf 46 = .ok (.invokevirtual 269, 3) := by decide +kernel
theorem dX7_weightOf_49 : decode cX7_weightOf 49 = .ok (.ireturn, 1) := by decide +kernel
theorem dX7_weightOf_50 : decode cX7_weightOf 50 = .ok (.aload_n 0, 1) := by decide +kernel
theorem dX7_weightOf_51 : decode cX7_weightOf 51 = .ok (.aload_n 1, 1) := by decide +kernel
theorem dX7_weightOf_52 : decode cX7_weightOf 52 = .ok (.invokevirtual 272, 3) := by decide +kernel
theorem dX7_weightOf_55 : decode cX7_weightOf 55 = .ok (.ireturn, 1) := by decide +kernel
set_option maxRecDepth 20000 in
theorem ggX7_body10_X6_begin : GoodIn wsX7_body10 wsX6_begin := goodIn_r _ [7, 8, 9, 30, 31] (by decide +kernel) (by decide +kernel)
set_option maxRecDepth 20000 in
theorem gX7_body10_X6_begin : GoodIn wsX7_body10 (wsV RX7 275 RX6 yX6_begin wsX6_begin) := goodIn_app (goodIn_of _ (by decide +kernel)) ggX7_body10_X6_begin
theorem dX7_body10_0 : decode cX7_body10 0 = .ok (.aload_n 0, 1) := by decide +kernel
theorem dX7_body10_1 : decode cX7_body10 1 = .ok (.getfield 52, 3) := by decide +kernel
theorem dX7_body10_4 : decode cX7_body10 4 = .ok (.bipush 10, 2) := by decide +kernel
theorem dX7_body10_6 : decode cX7_body10 6 = .ok (.invokevirtual 275, 3) := by decide +kernel
theorem dX7_body10_9 : decode cX7_body10 9 = .ok (.aload_n 1, 1) := by decide +kernel
theorem dX7_body10_10 : decode cX7_body10 10 = .ok (.getfield 144, 3) := by decide +kernel
theorem dX7_body10_13 : decode cX7_body10 13 = .ok (.ireturn, 1) := by decide +kernel
set_option maxRecDepth 20000 in
theorem ggX7_body11_X6_begin : GoodIn wsX7_body11 wsX6_begin := goodIn_r _ [6, 7, 8, 23, 24] (by decide +kernel) (by decide +kernel)
set_option maxRecDepth 20000 in
theorem gX7_body11_X6_begin : GoodIn wsX7_body11 (wsV RX7 275 RX6 yX6_begin wsX6_begin) := goodIn_app (goodIn_of _ (by decide +kernel)) ggX7_body11_X6_begin
set_option maxRecDepth 20000 in
theorem ggX7_body11_X7_body10 : GoodIn wsX7_body11 wsX7_body10 := goodIn_r _ [13, 1, 14, 2, 3, 4, 5, 6, 7, 8, 15, 16, 17, 18, 19, 20, 21, 22, 25, 26, 27, 28, 29, 30, 31, 32, 33, 34, 35, 36, 23, 24] (by decide +kernel) (by decide +kernel)
set_option maxRecDepth 20000 in
theorem gX7_body11_X7_body10 : GoodIn wsX7_body11 (wsV RX7 272 RX7 yX7_body10 wsX7_body10) := goodIn_app (goodIn_of _ (by decide +kernel)) ggX7_body11_X7_body10
theorem dX7_body11_0 : decode cX7_body11 0 = .ok (.aload_n 0, 1) := by decide +kernel
theorem dX7_body11_1 : decode cX7_body11 1 = .ok (.getfield 52, 3) := by decide +kernel
theorem dX7_body11_4 : decode cX7_body11 4 = .ok (.bipush 11, 2) := by decide +kernel
theorem dX7_body11_6 : decode cX7_body11 6 = .ok (.invokevirtual 275, 3) := by decide +kernel
theorem dX7_body11_9 : decode cX7_body11 9 = .ok (.aload_n 0, 1) := by decide +kernel
theorem dX7_body11_10 : decode cX7_body11 10 = .ok (.aload_n 1, 1) := by decide +kernel
theorem dX7_body11_11 : decode cX7_body11 11 = .ok (.invokevirtual 272, 3) := by decide +kernel
theorem dX7_body11_14 : decode cX7_body11 14 = .ok (.bipush 10, 2) := by decide +kernel
theorem dX7_body11_16 : decode cX7_body11 16 = .ok (.iadd, 1) := by decide +kernel
theorem dX7_body11_17 : decode cX7_body11 17 = .ok (.ireturn, 1) := by decide +kernel
set_option maxRecDepth 20000 in
theorem ggX7_body12_X6_begin : GoodIn wsX7_body12 wsX6_begin := goodIn_r _ [6, 7, 8, 27, 28] (by decide +kernel) (by decide +kernel)
set_option maxRecDepth 20000 in
theorem gX7_body12_X6_begin : GoodIn wsX7_body12 (wsV RX7 275 RX6 yX6_begin wsX6_begin) := goodIn_app (goodIn_of _ (by decide +kernel)) ggX7_body12_X6_begin
set_option maxRecDepth 20000 in
theorem ggX7_body12_X7_body11 : GoodIn wsX7_body12 wsX7_body11 := goodIn_r _ [13, 1, 2, 3, 4, 5, 6, 7, 8, 14, 15, 16, 12, 17, 18, 19, 20, 21, 22, 23, 24, 25, 26, 27, 28, 29, 30, 31, 32, 33, 34, 35, 36, 37, 38, 39, 40] (by decide +kernel) (by decide +kernel)
set_option maxRecDepth 20000 in
theorem gX7_body12_X7_body11 : GoodIn wsX7_body12 (wsV RX7 263 RX7 yX7_body11 wsX7_body11) := goodIn_app (goodIn_of _ (by decide +kernel)) ggX7_body12_X7_body11
theorem dX7_body12_0 : decode cX7_body12 0 = .ok (.aload_n 0, 1) := by decide +kernel
theorem dX7_body12_1 : decode cX7_body12 1 = .ok (.getfield 52, 3) := by decide +kernel
theorem dX7_body12_4 : decode cX7_body12 4 = .ok (.bipush 12, 2) := by decide +kernel
theorem dX7_body12_6 : decode cX7_body12 6 = .ok (.invokevirtual 275, 3) := by decide +kernel
theorem dX7_body12_9 : decode cX7_body12 9 = .ok (.iconst 2, 1) := by decide +kernel
theorem dX7_body12_10 : decode cX7_body12 10 = .ok (.aload_n 0, 1) := by decide +kernel
theorem dX7_body12_11 : decode cX7_body12 11 = .ok (.aload_n 1, 1) := by decide +kernel
theorem dX7_body12_12 : decode cX7_body12 12 = .ok (.invokevirtual 263, 3) := by decide +kernel
theorem dX7_body12_15 : decode cX7_body12 15 = .ok (.imul, 1) := by decide +kernel
theorem dX7_body12_16 : decode cX7_body12 16 = .ok (.ireturn, 1) := by decide +kernel
set_option maxRecDepth 20000 in
theorem ggX7_body13_X6_begin : GoodIn wsX7_body13 wsX6_begin := goodIn_r _ [6, 7, 8, 23, 24] (by decide +kernel) (by decide +kernel)
set_option maxRecDepth 20000 in
theorem gX7_body13_X6_begin : GoodIn wsX7_body13 (wsV RX7 275 RX6 yX6_begin wsX6_begin) := goodIn_app (goodIn_of _ (by decide +kernel)) ggX7_body13_X6_begin
set_option maxRecDepth 20000 in
theorem ggX7_body13_X7_body10 : GoodIn wsX7_body13 wsX7_body10 := goodIn_r _ [13, 1, 14, 2, 3, 4, 5, 6, 7, 8, 15, 16, 17, 18, 19, 20, 21, 22, 25, 26, 27, 28, 29, 30, 31, 32, 33, 34, 35, 36, 23, 24] (by decide +kernel) (by decide +kernel)
set_option maxRecDepth 20000 in
theorem gX7_body13_X7_body10 : GoodIn wsX7_body13 (wsV RX7 272 RX7 yX7_body10 wsX7_body10) := goodIn_app (goodIn_of _ (by decide +kernel)) ggX7_body13_X7_body10
theorem dX7_body13_0 : decode cX7_body13 0 = .ok (.aload_n 0, 1) := by decide +kernel
theorem dX7_body13_1 : decode cX7_body13 1 = .ok (.getfield 52, 3) := by decide +kernel
theorem dX7_body13_4 : decode cX7_body13 4 = .ok (.bipush 13, 2) := by decide +kernel
theorem dX7_body13_6 : decode cX7_body13 6 = .ok (.invokevirtual 275, 3) := by decide +kernel
theorem dX7_body13_9 : decode cX7_body13 9 = .ok (.aload_n 0, 1) := by decide +kernel
theorem dX7_body13_10 : decode cX7_body13 10 = .ok (.aload_n 1, 1) := by decide +kernel
theorem dX7_body13_11 : decode cX7_body13 11 = .ok (.invokevirtual 272, 3) := by decide +kernel
theorem dX7_body13_14 : decode cX7_body13 14 = .ok (.ineg, 1) := by decide +kernel
theorem dX7_body13_15 : decode cX7_body13 15 = .ok (.ireturn, 1) := by decide +kernel
set_option maxRecDepth 20000 in
theorem ggX7_markOf_X0_toldKind : GoodIn wsX7_markOf wsX0_toldKind := goodIn_r _ [5, 6, 7, 51, 52, 53, 54, 55, 56, 57, 58, 59, 60, 61, 62] (by decide +kernel) (by decide +kernel)
set_option maxRecDepth 20000 in
theorem gX7_markOf_X0_toldKind : GoodIn wsX7_markOf (wsV RX7 177 RX0 yX0_toldKind wsX0_toldKind) := goodIn_app (goodIn_of _ (by decide +kernel)) ggX7_markOf_X0_toldKind
set_option maxRecDepth 20000 in
theorem ggX7_markOf_X7_body21 : GoodIn wsX7_markOf wsX7_body21 := goodIn_r _ [12, 13, 14, 15, 16, 17, 18, 19, 20, 21, 22, 23, 11, 24, 25, 26, 27, 28, 29, 1, 2, 3, 4, 5, 6, 7, 30, 31, 32, 33, 34, 35, 36, 37, 38, 39, 40, 41, 42, 43, 44, 45, 46, 63, 64, 65, 66, 67, 68, 69, 70, 71, 72, 51, 52, 53, 54, 55, 56, 57, 58, 59, 60, 61, 62] (by decide +kernel) (by decide +kernel)
set_option maxRecDepth 20000 in
theorem gX7_markOf_X7_body21 : GoodIn wsX7_markOf (wsV RX7 278 RX7 yX7_body21 wsX7_body21) := goodIn_app (goodIn_of _ (by decide +kernel)) ggX7_markOf_X7_body21
set_option maxRecDepth 20000 in
theorem ggX7_markOf_X7_body22 : GoodIn wsX7_markOf wsX7_body22 := goodIn_r _ [50, 13, 14, 15, 16, 17, 18, 19, 20, 21, 22, 23, 11, 24, 25, 63, 64, 65, 66, 67, 68, 69, 70, 71, 72, 51, 52, 53, 54, 55, 56, 57, 58, 59, 60, 61, 62] (by decide +kernel) (by decide +kernel)
set_option maxRecDepth 20000 in
theorem gX7_markOf_X7_body22 : GoodIn wsX7_markOf (wsV RX7 281 RX7 yX7_body22 wsX7_body22) := goodIn_app (goodIn_of _ (by decide +kernel)) ggX7_markOf_X7_body22
set_option maxRecDepth 20000 in
theorem ggX7_markOf_X7_body20 : GoodIn wsX7_markOf wsX7_body20 := goodIn_r _ [24, 13, 25, 14, 15, 16, 17, 18, 19, 20, 63, 64, 65, 66, 67, 68, 69, 70, 51, 52, 53, 54, 55, 56, 57, 58, 59, 60, 61, 62, 71, 72] (by decide +kernel) (by decide +kernel)
set_option maxRecDepth 20000 in
theorem gX7_markOf_X7_body20 : GoodIn wsX7_markOf (wsV RX7 284 RX7 yX7_body20 wsX7_body20) := goodIn_app (goodIn_of _ (by decide +kernel)) ggX7_markOf_X7_body20
theorem dX7_markOf_0 : decode cX7_markOf 0 = .ok (.aload_n 1, 1) := by decide +kernel
theorem dX7_markOf_1 : decode cX7_markOf 1 = .ok (.invokevirtual 177, 3) := by decide +kernel
theorem dX7_markOf_4 : decode cX7_markOf 4 = .ok (.tableswitch 40 1 3 #[28, 28, 34], 28) := by decide +kernel
theorem dX7_markOf_32 : decode cX7_markOf 32 = .ok (.aload_n 0, 1) := by decide +kernel
theorem dX7_markOf_33 : decode cX7_markOf 33 = .ok (.aload_n 1, 1) := by decide +kernel
theorem dX7_markOf_34 : decode cX7_markOf 34 = .ok (.invokevirtual 278, 3) := by decide +kernel
theorem dX7_markOf_37 : decode cX7_markOf 37 = .ok (.ireturn, 1) := by decide +kernel
theorem dX7_markOf_38 : decode cX7_markOf 38 = .ok (.aload_n 0, 1) := by decide +kernel
theorem dX7_markOf_39 : decode cX7_markOf 39 = .ok (.aload_n 1, 1) := by decide +kernel
theorem dX7_markOf_40 : decode cX7_markOf 40 = .ok (.invokevirtual 281, 3) := by decide +kernel
theorem dX7_markOf_43 : decode cX7_markOf 43 = .ok (.ireturn, 1) := by decide +kernel
theorem dX7_markOf_44 : decode cX7_markOf 44 = .ok (.aload_n 0, 1) := by decide +kernel
theorem dX7_markOf_45 : decode cX7_markOf 45 = .ok (.aload_n 1, 1) := by decide +kernel
theorem dX7_markOf_46 : decode cX7_markOf 46 = .ok (.invokevirtual 284, 3) := by decide +kernel
theorem dX7_markOf_49 : decode cX7_markOf 49 = .ok (.ireturn, 1) := by decide +kernel
set_option maxRecDepth 20000 in
theorem ggX7_body20_X6_begin : GoodIn wsX7_body20 wsX6_begin := goodIn_r _ [7, 8, 9, 30, 31] (by decide +kernel) (by decide +kernel)
set_option maxRecDepth 20000 in
theorem gX7_body20_X6_begin : GoodIn wsX7_body20 (wsV RX7 275 RX6 yX6_begin wsX6_begin) := goodIn_app (goodIn_of _ (by decide +kernel)) ggX7_body20_X6_begin
theorem dX7_body20_0 : decode cX7_body20 0 = .ok (.aload_n 0, 1) := by decide +kernel
theorem dX7_body20_1 : decode cX7_body20 1 = .ok (.getfield 52, 3) := by decide +kernel
theorem dX7_body20_4 : decode cX7_body20 4 = .ok (.bipush 20, 2) := by decide +kernel
theorem dX7_body20_6 : decode cX7_body20 6 = .ok (.invokevirtual 275, 3) := by decide +kernel
theorem dX7_body20_9 : decode cX7_body20 9 = .ok (.aload_n 1, 1) := by decide +kernel
theorem dX7_body20_10 : decode cX7_body20 10 = .ok (.getfield 163, 3) := by decide +kernel
theorem dX7_body20_13 : decode cX7_body20 13 = .ok (.ireturn, 1) := by decide +kernel
set_option maxRecDepth 20000 in
theorem ggX7_body21_X6_begin : GoodIn wsX7_body21 wsX6_begin := goodIn_r _ [6, 7, 8, 51, 52] (by decide +kernel) (by decide +kernel)
set_option maxRecDepth 20000 in
theorem gX7_body21_X6_begin : GoodIn wsX7_body21 (wsV RX7 275 RX6 yX6_begin wsX6_begin) := goodIn_app (goodIn_of _ (by decide +kernel)) ggX7_body21_X6_begin
set_option maxRecDepth 20000 in
theorem ggX7_body21_X7_body20 : GoodIn wsX7_body21 wsX7_body20 := goodIn_r _ [13, 1, 14, 2, 3, 4, 5, 6, 7, 8, 43, 44, 45, 46, 47, 48, 49, 50, 53, 54, 55, 56, 57, 58, 59, 60, 61, 62, 63, 64, 51, 52] (by decide +kernel) (by decide +kernel)
set_option maxRecDepth 20000 in
theorem gX7_body21_X7_body20 : GoodIn wsX7_body21 (wsV RX7 284 RX7 yX7_body20 wsX7_body20) := goodIn_app (goodIn_of _ (by decide +kernel)) ggX7_body21_X7_body20
set_option maxRecDepth 20000 in
theorem ggX7_body21_X7_weightOf : GoodIn wsX7_body21 wsX7_weightOf := goodIn_r _ [18, 19, 20, 21, 22, 23, 24, 25, 26, 27, 28, 12, 29, 1, 2, 3, 4, 5, 6, 7, 8, 30, 31, 32, 33, 34, 35, 36, 37, 38, 39, 40, 41, 42, 53, 54, 55, 56, 57, 58, 59, 60, 61, 62, 63, 64, 43, 44, 45, 46, 47, 48, 49, 50, 51, 52] (by decide +kernel) (by decide +kernel)
set_option maxRecDepth 20000 in
theorem gX7_body21_X7_weightOf : GoodIn wsX7_body21 (wsV RX7 235 RX7 yX7_weightOf wsX7_weightOf) := goodIn_app (goodIn_of _ (by decide +kernel)) ggX7_body21_X7_weightOf
theorem dX7_body21_0 : decode cX7_body21 0 = .ok (.aload_n 0, 1) := by decide +kernel
theorem dX7_body21_1 : decode cX7_body21 1 = .ok (.getfield 52, 3) := by decide +kernel
theorem dX7_body21_4 : decode cX7_body21 4 = .ok (.bipush 21, 2) := by decide +kernel
theorem dX7_body21_6 : decode cX7_body21 6 = .ok (.invokevirtual 275, 3) := by decide +kernel
theorem dX7_body21_9 : decode cX7_body21 9 = .ok (.aload_n 0, 1) := by decide +kernel
theorem dX7_body21_10 : decode cX7_body21 10 = .ok (.aload_n 1, 1) := by decide +kernel
theorem dX7_body21_11 : decode cX7_body21 11 = .ok (.invokevirtual 284, 3) := by decide +kernel
theorem dX7_body21_14 : decode cX7_body21 14 = .ok (.aload_n 0, 1) := by decide +kernel
theorem dX7_body21_15 : decode cX7_body21 15 = .ok (.aload_n 1, 1) := by decide +kernel
theorem dX7_body21_16 : decode cX7_body21 16 = .ok (.invokevirtual 235, 3) := by decide +kernel
theorem dX7_body21_19 : decode cX7_body21 19 = .ok (.iadd, 1) := by decide +kernel
theorem dX7_body21_20 : decode cX7_body21 20 = .ok (.ireturn, 1) := by decide +kernel
set_option maxRecDepth 20000 in
theorem ggX7_body22_X6_begin : GoodIn wsX7_body22 wsX6_begin := goodIn_r _ [6, 7, 8, 23, 24] (by decide +kernel) (by decide +kernel)
set_option maxRecDepth 20000 in
theorem gX7_body22_X6_begin : GoodIn wsX7_body22 (wsV RX7 275 RX6 yX6_begin wsX6_begin) := goodIn_app (goodIn_of _ (by decide +kernel)) ggX7_body22_X6_begin
set_option maxRecDepth 20000 in
theorem ggX7_body22_X7_body20 : GoodIn wsX7_body22 wsX7_body20 := goodIn_r _ [13, 1, 14, 2, 3, 4, 5, 6, 7, 8, 15, 16, 17, 18, 19, 20, 21, 22, 25, 26, 27, 28, 29, 30, 31, 32, 33, 34, 35, 36, 23, 24] (by decide +kernel) (by decide +kernel)
set_option maxRecDepth 20000 in
theorem gX7_body22_X7_body20 : GoodIn wsX7_body22 (wsV RX7 284 RX7 yX7_body20 wsX7_body20) := goodIn_app (goodIn_of _ (by decide +kernel)) ggX7_body22_X7_body20
theorem dX7_body22_0 : decode cX7_body22 0 = .ok (.aload_n 0, 1) := by decide +kernel
theorem dX7_body22_1 : decode cX7_body22 1 = .ok (.getfield 52, 3) := by decide +kernel
theorem dX7_body22_4 : decode cX7_body22 4 = .ok (.bipush 22, 2) := by decide +kernel
theorem dX7_body22_6 : decode cX7_body22 6 = .ok (.invokevirtual 275, 3) := by decide +kernel
theorem dX7_body22_9 : decode cX7_body22 9 = .ok (.aload_n 0, 1) := by decide +kernel
theorem dX7_body22_10 : decode cX7_body22 10 = .ok (.aload_n 1, 1) := by decide +kernel
theorem dX7_body22_11 : decode cX7_body22 11 = .ok (.invokevirtual 284, 3) := by decide +kernel
theorem dX7_body22_14 : decode cX7_body22 14 = .ok (.sipush 1000, 3) := by decide +kernel
theorem dX7_body22_17 : decode cX7_body22 17 = .ok (.iadd, 1) := by decide +kernel
theorem dX7_body22_18 : decode cX7_body22 18 = .ok (.ireturn, 1) := by decide +kernel
end
section
theorem dX8_init_0 : decode cX8_init 0 = .ok (.aload_n 0, 1) := by decide +kernel
theorem dX8_init_1 : decode cX8_init 1 = .ok (.invokespecial 1, 3) := by decide +kernel
theorem dX8_init_4 : decode cX8_init 4 = .ok (.aload_n 0, 1) := by decide +kernel
theorem dX8_init_5 : decode cX8_init 5 = .ok (.bipush 30, 2) := by decide +kernel
theorem dX8_init_7 : decode cX8_init 7 = .ok (.newarray .int, 2) := by decide +kernel
theorem dX8_init_9 : decode cX8_init 9 = .ok (.putfield 7, 3) := by decide +kernel
theorem dX8_init_12 : decode cX8_init 12 = .ok (.aload_n 0, 1) := by decide +kernel
theorem dX8_init_13 : decode cX8_init 13 = .ok (.bipush 30, 2) := by decide +kernel
theorem dX8_init_15 : decode cX8_init 15 = .ok (.newarray .int, 2) := by decide +kernel
theorem dX8_init_17 : decode cX8_init 17 = .ok (.putfield 13, 3) := by decide +kernel
theorem dX8_init_20 : decode cX8_init 20 = .ok (.aload_n 0, 1) := by decide +kernel
theorem dX8_init_21 : decode cX8_init 21 = .ok (.bipush 30, 2) := by decide +kernel
theorem dX8_init_23 : decode cX8_init 23 = .ok (.newarray .int, 2) := by decide +kernel
theorem dX8_init_25 : decode cX8_init 25 = .ok (.putfield 16, 3) := by decide +kernel
theorem dX8_init_28 : decode cX8_init 28 = .ok (.aload_n 0, 1) := by decide +kernel
theorem dX8_init_29 : decode cX8_init 29 = .ok (.bipush 30, 2) := by decide +kernel
theorem dX8_init_31 : decode cX8_init 31 = .ok (.newarray .int, 2) := by decide +kernel
theorem dX8_init_33 : decode cX8_init 33 = .ok (.putfield 19, 3) := by decide +kernel
theorem dX8_init_36 : decode cX8_init 36 = .ok (.aload_n 0, 1) := by decide +kernel
theorem dX8_init_37 : decode cX8_init 37 = .ok (.bipush 30, 2) := by decide +kernel
theorem dX8_init_39 : decode cX8_init 39 = .ok (.newarray .int, 2) := by decide +kernel
theorem dX8_init_41 : decode cX8_init 41 = .ok (.putfield 22, 3) := by decide +kernel
theorem dX8_init_44 : decode cX8_init 44 = .ok (.aload_n 0, 1) := by decide +kernel
theorem dX8_init_45 : decode cX8_init 45 = .ok (.bipush 40, 2) := by decide +kernel
theorem dX8_init_47 : decode cX8_init 47 = .ok (.newarray .int, 2) := by decide +kernel
theorem dX8_init_49 : decode cX8_init 49 = .ok (.putfield 25, 3) := by decide +kernel
theorem dX8_init_52 : decode cX8_init 52 = .ok (.aload_n 0, 1) := by decide +kernel
theorem dX8_init_53 : decode cX8_init 53 = .ok (.bipush 40, 2) := by decide +kernel
theorem dX8_init_55 : decode cX8_init 55 = .ok (.newarray .int, 2) := by decide +kernel
theorem dX8_init_57 : decode cX8_init 57 = .ok (.putfield 28, 3) := by decide +kernel
theorem dX8_init_60 : decode cX8_init 60 = .ok (.aload_n 0, 1) := by decide +kernel
theorem dX8_init_61 : decode cX8_init 61 = .ok (.bipush 40, 2) := by decide +kernel
theorem dX8_init_63 : decode cX8_init 63 = .ok (.newarray .int, 2) := by decide +kernel
theorem dX8_init_65 : decode cX8_init 65 = .ok (.putfield 31, 3) := by decide +kernel
theorem dX8_init_68 : decode cX8_init 68 = .ok (.aload_n 0, 1) := by decide +kernel
theorem dX8_init_69 : decode cX8_init 69 = .ok (.bipush 40, 2) := by decide +kernel
theorem dX8_init_71 : decode cX8_init 71 = .ok (.newarray .int, 2) := by decide +kernel
theorem dX8_init_73 : decode cX8_init 73 = .ok (.putfield 34, 3) := by decide +kernel
theorem dX8_init_76 : decode cX8_init 76 = .ok (.aload_n 0, 1) := by decide +kernel
theorem dX8_init_77 : decode cX8_init 77 = .ok (.bipush 40, 2) := by decide +kernel
theorem dX8_init_79 : decode cX8_init 79 = .ok (.newarray .int, 2) := by decide +kernel
theorem dX8_init_81 : decode cX8_init 81 = .ok (.putfield 37, 3) := by decide +kernel
theorem dX8_init_84 : decode cX8_init 84 = .ok (.aload_n 0, 1) := by decide +kernel
theorem dX8_init_85 : decode cX8_init 85 = .ok (.bipush 40, 2) := by decide +kernel
theorem dX8_init_87 : decode cX8_init 87 = .ok (.newarray .int, 2) := by decide +kernel
theorem dX8_init_89 : decode cX8_init 89 = .ok (.putfield 40, 3) := by decide +kernel
theorem dX8_init_92 : decode cX8_init 92 = .ok (.aload_n 0, 1) := by decide +kernel
theorem dX8_init_93 : decode cX8_init 93 = .ok (.bipush 40, 2) := by decide +kernel
theorem dX8_init_95 : decode cX8_init 95 = .ok (.newarray .int, 2) := by decide +kernel
theorem dX8_init_97 : decode cX8_init 97 = .ok (.putfield 43, 3) := by decide +kernel
theorem dX8_init_100 : decode cX8_init 100 = .ok (.aload_n 0, 1) := by decide +kernel
theorem dX8_init_101 : decode cX8_init 101 = .ok (.bipush 40, 2) := by decide +kernel
theorem dX8_init_103 : decode cX8_init 103 = .ok (.newarray .boolean, 2) := by decide +kernel
theorem dX8_init_105 : decode cX8_init 105 = .ok (.putfield 46, 3) := by decide +kernel
theorem dX8_init_108 : decode cX8_init 108 = .ok (.aload_n 0, 1) := by decide +kernel
theorem dX8_init_109 : decode cX8_init 109 = .ok (.bipush 40, 2) := by decide +kernel
theorem dX8_init_111 : decode cX8_init 111 = .ok (.newarray .boolean, 2) := by decide +kernel
theorem dX8_init_113 : decode cX8_init 113 = .ok (.putfield 50, 3) := by decide +kernel
theorem dX8_init_116 : decode cX8_init 116 = .ok (.aload_n 0, 1) := by decide +kernel
theorem dX8_init_117 : decode cX8_init 117 = .ok (.bipush 40, 2) := by decide +kernel
theorem dX8_init_119 : decode cX8_init 119 = .ok (.newarray .int, 2) := by decide +kernel
theorem dX8_init_121 : decode cX8_init 121 = .ok (.putfield 53, 3) := by decide +kernel
theorem dX8_init_124 : decode cX8_init 124 = .ok (.aload_n 0, 1) := by decide +kernel
theorem dX8_init_125 : decode cX8_init 125 = .ok (.bipush 40, 2) := by decide +kernel
theorem dX8_init_127 : decode cX8_init 127 = .ok (.newarray .int, 2) := by decide +kernel
theorem dX8_init_129 : decode cX8_init 129 = .ok (.putfield 56, 3) := by decide +kernel
theorem dX8_init_132 : decode cX8_init 132 = .ok (.aload_n 0, 1) := by decide +kernel
theorem dX8_init_133 : decode cX8_init 133 = .ok (.bipush 40, 2) := by decide +kernel
theorem dX8_init_135 : decode cX8_init 135 = .ok (.newarray .int, 2) := by decide +kernel
theorem dX8_init_137 : decode cX8_init 137 = .ok (.putfield 59, 3) := by decide +kernel
theorem dX8_init_140 : decode cX8_init 140 = .ok (.aload_n 0, 1) := by decide +kernel
theorem dX8_init_141 : decode cX8_init 141 = .ok (.bipush 40, 2) := by decide +kernel
theorem dX8_init_143 : decode cX8_init 143 = .ok (.newarray .int, 2) := by decide +kernel
theorem dX8_init_145 : decode cX8_init 145 = .ok (.putfield 62, 3) := by decide +kernel
theorem dX8_init_148 : decode cX8_init 148 = .ok (.aload_n 0, 1) := by decide +kernel
theorem dX8_init_149 : decode cX8_init 149 = .ok (.bipush 30, 2) := by decide +kernel
theorem dX8_init_151 : decode cX8_init 151 = .ok (.newarray .int, 2) := by decide +kernel
theorem dX8_init_153 : decode cX8_init 153 = .ok (.putfield 65, 3) := by decide +kernel
theorem dX8_init_156 : decode cX8_init 156 = .ok (.aload_n 0, 1) := by decide +kernel
theorem dX8_init_157 : decode cX8_init 157 = .ok (.bipush 30, 2) := by decide +kernel
theorem dX8_init_159 : decode cX8_init 159 = .ok (.newarray .int, 2) := by decide +kernel
theorem dX8_init_161 : decode cX8_init 161 = .ok (.putfield 68, 3) := by decide +kernel
theorem dX8_init_164 : decode cX8_init 164 = .ok (.aload_n 0, 1) := by decide +kernel
theorem dX8_init_165 : decode cX8_init 165 = .ok (.bipush 40, 2) := by decide +kernel
theorem dX8_init_167 : decode cX8_init 167 = .ok (.newarray .boolean, 2) := by decide +kernel
theorem dX8_init_169 : decode cX8_init 169 = .ok (.putfield 71, 3) := by decide +kernel
theorem dX8_init_172 : decode cX8_init 172 = .ok (.aload_n 0, 1) := by decide +kernel
theorem dX8_init_173 : decode cX8_init 173 = .ok (.sipush 900, 3) := by decide +kernel
theorem dX8_init_176 : decode cX8_init 176 = .ok (.newarray .int, 2) := by decide +kernel
theorem dX8_init_178 : decode cX8_init 178 = .ok (.putfield 74, 3) := by decide +kernel
theorem dX8_init_181 : decode cX8_init 181 = .ok (.aload_n 0, 1) := by decide +kernel
theorem dX8_init_182 : decode cX8_init 182 = .ok (.sipush 300, 3) := by decide +kernel
theorem dX8_init_185 : decode cX8_init 185 = .ok (.newarray .int, 2) := by decide +kernel
theorem dX8_init_187 : decode cX8_init 187 = .ok (.putfield 77, 3) := by decide +kernel
theorem dX8_init_190 : decode cX8_init 190 = .ok (.aload_n 0, 1) := by decide +kernel
theorem dX8_init_191 : decode cX8_init 191 = .ok (.bipush 40, 2) := by decide +kernel
theorem dX8_init_193 : decode cX8_init 193 = .ok (.newarray .int, 2) := by decide +kernel
theorem dX8_init_195 : decode cX8_init 195 = .ok (.putfield 80, 3) := by decide +kernel
theorem dX8_init_198 : decode cX8_init 198 = .ok (.aload_n 0, 1) := by decide +kernel
theorem dX8_init_199 : decode cX8_init 199 = .ok (.bipush 40, 2) := by decide +kernel
theorem dX8_init_201 : decode cX8_init 201 = .ok (.newarray .int, 2) := by decide +kernel
theorem dX8_init_203 : decode cX8_init 203 = .ok (.putfield 83, 3) := by decide +kernel
theorem dX8_init_206 : decode cX8_init 206 = .ok (.aload_n 0, 1) := by decide +kernel
theorem dX8_init_207 : decode cX8_init 207 = .ok (.bipush 40, 2) := by decide +kernel
theorem dX8_init_209 : decode cX8_init 209 = .ok (.newarray .int, 2) := by decide +kernel
theorem dX8_init_211 : decode cX8_init 211 = .ok (.putfield 86, 3) := by decide +kernel
theorem dX8_init_214 : decode cX8_init 214 = .ok (.aload_n 0, 1) := by decide +kernel
theorem dX8_init_215 : decode cX8_init 215 = .ok (.bipush 40, 2) := by decide +kernel
theorem dX8_init_217 : decode cX8_init 217 = .ok (.newarray .int, 2) := by decide +kernel
theorem dX8_init_219 : decode cX8_init 219 = .ok (.putfield 89, 3) := by decide +kernel
theorem dX8_init_222 : decode cX8_init 222 = .ok (.aload_n 0, 1) := by decide +kernel
theorem dX8_init_223 : decode cX8_init 223 = .ok (.bipush 16, 2) := by decide +kernel
theorem dX8_init_225 : decode cX8_init 225 = .ok (.newarray .int, 2) := by decide +kernel
theorem dX8_init_227 : decode cX8_init 227 = .ok (.putfield 92, 3) := by decide +kernel
theorem dX8_init_230 : decode cX8_init 230 = .ok (.return_, 1) := by decide +kernel
theorem dX8_in_0 : decode cX8_in 0 = .ok (.lload_n 0, 1) := by decide +kernel
theorem dX8_in_1 : decode cX8_in 1 = .ok (.lload_n 2, 1) := by decide +kernel
theorem dX8_in_2 : decode cX8_in 2 = .ok (.lcmp, 1) := by decide +kernel
theorem dX8_in_3 : decode cX8_in 3 = .ok (.ifCond .lt 14, 3) := by decide +kernel
theorem dX8_in_6 : decode cX8_in 6 = .ok (.lload_n 0, 1) := by decide +kernel
theorem dX8_in_7 : decode cX8_in 7 = .ok (.lload 4, 2) := by decide +kernel
theorem dX8_in_9 : decode cX8_in 9 = .ok (.lcmp, 1) := by decide +kernel
theorem dX8_in_10 : decode cX8_in 10 = .ok (.ifCond .gt 7, 3) := by decide +kernel
theorem dX8_in_13 : decode cX8_in 13 = .ok (.iconst 1, 1) := by decide +kernel
theorem dX8_in_14 : decode cX8_in 14 = .ok (.goto 4, 3) := by decide +kernel
theorem dX8_in_17 : decode cX8_in 17 = .ok (.iconst 0, 1) := by decide +kernel
theorem dX8_in_18 : decode cX8_in 18 = .ok (.ireturn, 1) := by decide +kernel
set_option maxRecDepth 20000 in
theorem ggX8_isPipe_X8_in : GoodIn wsX8_isPipe wsX8_in := goodIn_r _ [5] (by decide +kernel) (by decide +kernel)
set_option maxRecDepth 20000 in
theorem gX8_isPipe_X8_in : GoodIn wsX8_isPipe (va_wsS RX8 102 yX8_in wsX8_in) := goodIn_app (goodIn_of _ (by decide +kernel)) ggX8_isPipe_X8_in
theorem dX8_isPipe_0 : decode cX8_isPipe 0 = .ok (.iload_n 1, 1) := by decide +kernel
theorem dX8_isPipe_1 : decode cX8_isPipe 1 = .ok (.i2l, 1) := by decide +kernel
theorem dX8_isPipe_2 : decode cX8_isPipe 2 = .ok (.lconst 0, 1) := by decide +kernel
theorem dX8_isPipe_3 : decode cX8_isPipe 3 = .ok (.aload_n 0, 1) := by decide +kernel
theorem dX8_isPipe_4 : decode cX8_isPipe 4 = .ok (.getfield 99, 3) := by decide +kernel
theorem dX8_isPipe_7 : decode cX8_isPipe 7 = .ok (.iconst 1, 1) := by decide +kernel
theorem dX8_isPipe_8 : decode cX8_isPipe 8 = .ok (.isub, 1) := by decide +kernel
theorem dX8_isPipe_9 : decode cX8_isPipe 9 = .ok (.i2l, 1) := by decide +kernel
theorem dX8_isPipe_10 : decode cX8_isPipe 10 = .ok (.invokestatic 102, 3) := by decide +kernel
theorem dX8_isPipe_13 : decode cX8_isPipe 13 = .ok (.ireturn, 1) := by decide +kernel
set_option maxRecDepth 20000 in
theorem ggX8_pipe_X8_isPipe : GoodIn wsX8_pipe wsX8_isPipe := goodIn_r _ [16, 6, 17, 18, 15, 19, 20, 21, 22, 23, 24, 25, 26, 27, 28, 29, 30, 31, 32, 33, 34, 35, 36, 37, 38, 39, 40, 41, 42, 43, 44, 45, 46, 47, 48, 49, 50, 51, 52, 53, 54, 55, 56, 57, 58, 59, 60, 61, 62, 63, 64, 65, 66, 67] (by decide +kernel) (by decide +kernel)
set_option maxRecDepth 20000 in
theorem gX8_pipe_X8_isPipe : GoodIn wsX8_pipe (wsV RX8 107 RX8 yX8_isPipe wsX8_isPipe) := goodIn_app (goodIn_of _ (by decide +kernel)) ggX8_pipe_X8_isPipe
set_option maxRecDepth 20000 in
theorem ggX8_pipe_X8_in : GoodIn wsX8_pipe wsX8_in := goodIn_r _ [19] (by decide +kernel) (by decide +kernel)
set_option maxRecDepth 20000 in
theorem gX8_pipe_X8_in : GoodIn wsX8_pipe (va_wsS RX8 102 yX8_in wsX8_in) := goodIn_app (goodIn_of _ (by decide +kernel)) ggX8_pipe_X8_in
theorem dX8_pipe_0 : decode cX8_pipe 0 = .ok (.aload_n 0, 1) := by decide +kernel
theorem dX8_pipe_1 : decode cX8_pipe 1 = .ok (.iconst 0, 1) := by decide +kernel
theorem dX8_pipe_2 : decode cX8_pipe 2 = .ok (.putfield 95, 3) := by decide +kernel
theorem dX8_pipe_5 : decode cX8_pipe 5 = .ok (.iload_n 1, 1) := by decide +kernel
theorem dX8_pipe_6 : decode cX8_pipe 6 = .ok (.ldc 106, 2) := by decide +kernel
theorem dX8_pipe_8 : decode cX8_pipe 8 = .ok (.if_icmp .eq 11, 3) := by decide +kernel
theorem dX8_pipe_11 : decode cX8_pipe 11 = .ok (.aload_n 0, 1) := by decide +kernel
theorem dX8_pipe_12 : decode cX8_pipe 12 = .ok (.iload_n 1, 1) := by decide +kernel
theorem dX8_pipe_13 : decode cX8_pipe 13 = .ok (.invokevirtual 107, 3) := by decide +kernel
theorem dX8_pipe_16 : decode cX8_pipe 16 = .ok (.ifCond .eq 27, 3) := by decide +kernel
theorem dX8_pipe_19 : decode cX8_pipe 19 = .ok (.iload_n 2, 1) := by decide +kernel
theorem dX8_pipe_20 : decode cX8_pipe 20 = .ok (.i2l, 1) := by decide +kernel
theorem dX8_pipe_21 : decode cX8_pipe 21 = .ok (.lconst 0, 1) := by decide +kernel
theorem dX8_pipe_22 : decode cX8_pipe 22 = .ok (.ldc2_w 111, 3) := by decide +kernel
theorem dX8_pipe_25 : decode cX8_pipe 25 = .ok (.invokestatic 102, 3) := by decide +kernel
theorem dX8_pipe_28 : decode cX8_pipe 28 = .ok (.ifCond .eq 15, 3) := by decide +kernel
theorem dX8_pipe_31 : decode cX8_pipe 31 = .ok (.iload_n 3, 1) := by decide +kernel
theorem dX8_pipe_32 : decode cX8_pipe 32 = .ok (.i2l, 1) := by decide +kernel
theorem dX8_pipe_33 : decode cX8_pipe 33 = .ok (.lconst 0, 1) := by decide +kernel
theorem dX8_pipe_34 : decode cX8_pipe 34 = .ok (.ldc2_w 113, 3) := by decide +kernel
theorem dX8_pipe_37 : decode cX8_pipe 37 = .ok (.invokestatic 102, 3) := by decide +kernel
theorem dX8_pipe_40 : decode cX8_pipe 40 = .ok (.ifCond .ne 6, 3) := by decide +kernel
theorem dX8_pipe_43 : decode cX8_pipe 43 = .ok (.ldc 115, 2) := by decide +kernel
theorem dX8_pipe_45 : decode cX8_pipe 45 = .ok (.ireturn, 1) := by decide +kernel
theorem dX8_pipe_46 : decode cX8_pipe 46 = .ok (.aload_n 0, 1) := by decide +kernel
theorem dX8_pipe_47 : decode cX8_pipe 47 = .ok (.getfield 99, 3) := by decide +kernel
theorem dX8_pipe_50 : decode cX8_pipe 50 = .ok (.bipush 30, 2) := by decide +kernel
theorem dX8_pipe_52 : decode cX8_pipe 52 = .ok (.if_icmp .ne 6, 3) := by decide +kernel
theorem dX8_pipe_55 : decode cX8_pipe 55 = .ok (.ldc 116, 2) := by decide +kernel
theorem dX8_pipe_57 : decode cX8_pipe 57 = .ok (.ireturn, 1) := by decide +kernel
theorem dX8_pipe_58 : decode cX8_pipe 58 = .ok (.aload_n 0, 1) := by decide +kernel
theorem dX8_pipe_59 : decode cX8_pipe 59 = .ok (.getfield 7, 3) := by decide +kernel
theorem dX8_pipe_62 : decode cX8_pipe 62 = .ok (.aload_n 0, 1) := by decide +kernel
theorem dX8_pipe_63 : decode cX8_pipe 63 = .ok (.getfield 99, 3) := by decide +kernel
theorem dX8_pipe_66 : decode cX8_pipe 66 = .ok (.iload_n 1, 1) := by decide +kernel
theorem dX8_pipe_67 : decode cX8_pipe 67 = .ok (.iastore, 1) := by decide +kernel
theorem dX8_pipe_68 : decode cX8_pipe 68 = .ok (.aload_n 0, 1) := by decide +kernel
theorem dX8_pipe_69 : decode cX8_pipe 69 = .ok (.getfield 13, 3) := by decide +kernel
theorem dX8_pipe_72 : decode cX8_pipe 72 = .ok (.aload_n 0, 1) := by decide +kernel
theorem dX8_pipe_73 : decode cX8_pipe 73 = .ok (.getfield 99, 3) := by decide +kernel
theorem dX8_pipe_76 : decode cX8_pipe 76 = .ok (.iload_n 2, 1) := by decide +kernel
theorem dX8_pipe_77 : decode cX8_pipe 77 = .ok (.iastore, 1) := by decide +kernel
theorem dX8_pipe_78 : decode cX8_pipe 78 = .ok (.aload_n 0, 1) := by decide +kernel
theorem dX8_pipe_79 : decode cX8_pipe 79 = .ok (.getfield 16, 3) := by decide +kernel
theorem dX8_pipe_82 : decode cX8_pipe 82 = .ok (.aload_n 0, 1) := by decide +kernel
theorem dX8_pipe_83 : decode cX8_pipe 83 = .ok (.getfield 99, 3) := by decide +kernel
theorem dX8_pipe_86 : decode cX8_pipe 86 = .ok (.iload_n 3, 1) := by decide +kernel
theorem dX8_pipe_87 : decode cX8_pipe 87 = .ok (.iastore, 1) := by decide +kernel
theorem dX8_pipe_88 : decode cX8_pipe 88 = .ok (.aload_n 0, 1) := by decide +kernel
theorem dX8_pipe_89 : decode cX8_pipe 89 = .ok (.getfield 19, 3) := by decide +kernel
theorem dX8_pipe_92 : decode cX8_pipe 92 = .ok (.aload_n 0, 1) := by decide +kernel
theorem dX8_pipe_93 : decode cX8_pipe 93 = .ok (.getfield 99, 3) := by decide +kernel
theorem dX8_pipe_96 : decode cX8_pipe 96 = .ok (.iconst 0, 1) := by decide +kernel
theorem dX8_pipe_97 : decode cX8_pipe 97 = .ok (.iastore, 1) := by decide +kernel
theorem dX8_pipe_98 : decode cX8_pipe 98 = .ok (.aload_n 0, 1) := by decide +kernel
theorem dX8_pipe_99 : decode cX8_pipe 99 = .ok (.dup, 1) := by decide +kernel
theorem dX8_pipe_100 : decode cX8_pipe 100 = .ok (.getfield 99, 3) := by decide +kernel
theorem dX8_pipe_103 : decode cX8_pipe 103 = .ok (.iconst 1, 1) := by decide +kernel
theorem dX8_pipe_104 : decode cX8_pipe 104 = .ok (.iadd, 1) := by decide +kernel
theorem dX8_pipe_105 : decode cX8_pipe 105 = .ok (.putfield 99, 3) := by decide +kernel
theorem dX8_pipe_108 : decode cX8_pipe 108 = .ok (.aload_n 0, 1) := by decide +kernel
theorem dX8_pipe_109 : decode cX8_pipe 109 = .ok (.getfield 99, 3) := by decide +kernel
theorem dX8_pipe_112 : decode cX8_pipe 112 = .ok (.iconst 1, 1) := by decide +kernel
theorem dX8_pipe_113 : decode cX8_pipe 113 = .ok (.isub, 1) := by decide +kernel
theorem dX8_pipe_114 : decode cX8_pipe 114 = .ok (.ireturn, 1) := by decide +kernel
set_option maxRecDepth 20000 in
theorem ggX8_leak_X8_isPipe : GoodIn wsX8_leak wsX8_isPipe := goodIn_r _ [9, 10, 11, 12, 8, 13, 14, 15, 16, 17, 18, 19, 20, 21, 22, 23, 24, 25, 26, 27, 28, 29, 30, 31, 32, 33, 34, 35, 36, 37, 38, 39, 40, 41, 42, 43, 44, 45, 46, 47, 48, 49, 50, 51, 52, 53, 54, 55, 56, 57, 58, 59, 60, 61] (by decide +kernel) (by decide +kernel)
set_option maxRecDepth 20000 in
theorem gX8_leak_X8_isPipe : GoodIn wsX8_leak (wsV RX8 107 RX8 yX8_isPipe wsX8_isPipe) := goodIn_app (goodIn_of _ (by decide +kernel)) ggX8_leak_X8_isPipe
set_option maxRecDepth 20000 in
theorem ggX8_leak_X8_in : GoodIn wsX8_leak wsX8_in := goodIn_r _ [13] (by decide +kernel) (by decide +kernel)
set_option maxRecDepth 20000 in
theorem gX8_leak_X8_in : GoodIn wsX8_leak (va_wsS RX8 102 yX8_in wsX8_in) := goodIn_app (goodIn_of _ (by decide +kernel)) ggX8_leak_X8_in
theorem dX8_leak_0 : decode cX8_leak 0 = .ok (.aload_n 0, 1) := by decide +kernel
theorem dX8_leak_1 : decode cX8_leak 1 = .ok (.iconst 0, 1) := by decide +kernel
theorem dX8_leak_2 : decode cX8_leak 2 = .ok (.putfield 95, 3) := by decide +kernel
theorem dX8_leak_5 : decode cX8_leak 5 = .ok (.aload_n 0, 1) := by decide +kernel
theorem dX8_leak_6 : decode cX8_leak 6 = .ok (.iload_n 1, 1) := by decide +kernel
theorem dX8_leak_7 : decode cX8_leak 7 = .ok (.invokevirtual 107, 3) := by decide +kernel
theorem dX8_leak_10 : decode cX8_leak 10 = .ok (.ifCond .eq 15, 3) := by decide +kernel
theorem dX8_leak_13 : decode cX8_leak 13 = .ok (.iload_n 2, 1) := by decide +kernel
theorem dX8_leak_14 : decode cX8_leak 14 = .ok (.i2l, 1) := by decide +kernel
theorem dX8_leak_15 : decode cX8_leak 15 = .ok (.lconst 0, 1) := by decide +kernel
theorem dX8_leak_16 : decode cX8_leak 16 = .ok (.ldc2_w 117, 3) := by decide +kernel
theorem dX8_leak_19 : decode cX8_leak 19 = .ok (.invokestatic 102, 3) := by decide +kernel
theorem dX8_leak_22 : decode cX8_leak 22 = .ok (.ifCond .ne 6, 3) := by decide +kernel
theorem dX8_leak_25 : decode cX8_leak 25 = .ok (.ldc 115, 2) := by decide +kernel
theorem dX8_leak_27 : decode cX8_leak 27 = .ok (.ireturn, 1) := by decide +kernel
theorem dX8_leak_28 : decode cX8_leak 28 = .ok (.aload_n 0, 1) := by decide +kernel
theorem dX8_leak_29 : decode cX8_leak 29 = .ok (.getfield 19, 3) := by decide +kernel
theorem dX8_leak_32 : decode cX8_leak 32 = .ok (.iload_n 1, 1) := by decide +kernel
theorem dX8_leak_33 : decode cX8_leak 33 = .ok (.iaload, 1) := by decide +kernel
theorem dX8_leak_34 : decode cX8_leak 34 = .ok (.istore_n 3, 1) := by decide +kernel
theorem dX8_leak_35 : decode cX8_leak 35 = .ok (.aload_n 0, 1) := by decide +kernel
theorem dX8_leak_36 : decode cX8_leak 36 = .ok (.getfield 19, 3) := by decide +kernel
theorem dX8_leak_39 : decode cX8_leak 39 = .ok (.iload_n 1, 1) := by decide +kernel
theorem dX8_leak_40 : decode cX8_leak 40 = .ok (.iload_n 2, 1) := by decide +kernel
theorem dX8_leak_41 : decode cX8_leak 41 = .ok (.iastore, 1) := by decide +kernel
theorem dX8_leak_42 : decode cX8_leak 42 = .ok (.iload_n 3, 1) := by decide +kernel
theorem dX8_leak_43 : decode cX8_leak 43 = .ok (.ireturn, 1) := by decide +kernel
theorem dX8_findAir_0 : decode cX8_findAir 0 = .ok (.iconst 0, 1) := by decide +kernel
theorem dX8_findAir_1 : decode cX8_findAir 1 = .ok (.istore_n 1, 1) := by decide +kernel
theorem dX8_findAir_2 : decode cX8_findAir 2 = .ok (.iload_n 1, 1) := by decide +kernel
theorem dX8_findAir_3 : decode cX8_findAir 3 = .ok (.aload_n 0, 1) := by decide +kernel
theorem dX8_findAir_4 : decode cX8_findAir 4 = .ok (.getfield 99, 3) := by decide +kernel
theorem dX8_findAir_7 : decode cX8_findAir 7 = .ok (.if_icmp .ge 66, 3) := by decide +kernel
theorem dX8_findAir_10 : decode cX8_findAir 10 = .ok (.aload_n 0, 1) := by decide +kernel
theorem dX8_findAir_11 : decode cX8_findAir 11 = .ok (.getfield 7, 3) := by decide +kernel
theorem dX8_findAir_14 : decode cX8_findAir 14 = .ok (.iload_n 1, 1) := by decide +kernel
theorem dX8_findAir_15 : decode cX8_findAir 15 = .ok (.iaload, 1) := by decide +kernel
theorem dX8_findAir_16 : decode cX8_findAir 16 = .ok (.ldc 106, 2) := by decide +kernel
theorem dX8_findAir_18 : decode cX8_findAir 18 = .ok (.if_icmp .ne 8, 3) := by decide +kernel
theorem dX8_findAir_21 : decode cX8_findAir 21 = .ok (.bipush 100, 2) := by decide +kernel
theorem dX8_findAir_23 : decode cX8_findAir 23 = .ok (.goto 14, 3) := by decide +kernel
theorem dX8_findAir_26 : decode cX8_findAir 26 = .ok (.aload_n 0, 1) := by decide +kernel
theorem dX8_findAir_27 : decode cX8_findAir 27 = .ok (.getfield 22, 3) := by decide +kernel
theorem dX8_findAir_30 : decode cX8_findAir 30 = .ok (.aload_n 0, 1) := by decide +kernel
theorem dX8_findAir_31 : decode cX8_findAir 31 = .ok (.getfield 7, 3) := by decide +kernel
theorem dX8_findAir_34 : decode cX8_findAir 34 = .ok (.iload_n 1, 1) := by decide +kernel
theorem dX8_findAir_35 : decode cX8_findAir 35 = .ok (.iaload, 1) := by decide +kernel
theorem dX8_findAir_36 : decode cX8_findAir 36 = .ok (.iaload, 1) := by decide +kernel
theorem dX8_findAir_37 : decode cX8_findAir 37 = .ok (.aload_n 0, 1) := by decide +kernel
theorem dX8_findAir_38 : decode cX8_findAir 38 = .ok (.getfield 13, 3) := by decide +kernel
theorem dX8_findAir_41 : decode cX8_findAir 41 = .ok (.iload_n 1, 1) := by decide +kernel
theorem dX8_findAir_42 : decode cX8_findAir 42 = .ok (.iaload, 1) := by decide +kernel
theorem dX8_findAir_43 : decode cX8_findAir 43 = .ok (.isub, 1) := by decide +kernel
theorem dX8_findAir_44 : decode cX8_findAir 44 = .ok (.aload_n 0, 1) := by decide +kernel
theorem dX8_findAir_45 : decode cX8_findAir 45 = .ok (.getfield 19, 3) := by decide +kernel
theorem dX8_findAir_48 : decode cX8_findAir 48 = .ok (.iload_n 1, 1) := by decide +kernel
theorem dX8_findAir_49 : decode cX8_findAir 49 = .ok (.iaload, 1) := by decide +kernel
theorem dX8_findAir_50 : decode cX8_findAir 50 = .ok (.isub, 1) := by decide +kernel
theorem dX8_findAir_51 : decode cX8_findAir 51 = .ok (.istore_n 2, 1) := by decide +kernel
theorem dX8_findAir_52 : decode cX8_findAir 52 = .ok (.aload_n 0, 1) := by decide +kernel
theorem dX8_findAir_53 : decode cX8_findAir 53 = .ok (.getfield 22, 3) := by decide +kernel
theorem dX8_findAir_56 : decode cX8_findAir 56 = .ok (.iload_n 1, 1) := by decide +kernel
theorem dX8_findAir_57 : decode cX8_findAir 57 = .ok (.iload_n 2, 1) := by decide +kernel
theorem dX8_findAir_58 : decode cX8_findAir 58 = .ok (.ifCond .ge 7, 3) := by decide +kernel
theorem dX8_findAir_61 : decode cX8_findAir 61 = .ok (.iconst 0, 1) := by decide +kernel
theorem dX8_findAir_62 : decode cX8_findAir 62 = .ok (.goto 4, 3) := by decide +kernel
theorem dX8_findAir_65 : decode cX8_findAir 65 = .ok (.iload_n 2, 1) := by decide +kernel
theorem dX8_findAir_66 : decode cX8_findAir 66 = .ok (.iastore, 1) := by decide +kernel
theorem dX8_findAir_67 : decode cX8_findAir 67 = .ok (.iinc 1 1, 3) := by decide +kernel
theorem dX8_findAir_70 : decode cX8_findAir 70 = .ok (.goto (-68), 3) := by decide +kernel
theorem dX8_findAir_73 : decode cX8_findAir 73 = .ok (.return_, 1) := by decide +kernel
theorem dX8_findAirBy_0 : decode cX8_findAirBy 0 = .ok (.iconst 0, 1) := by decide +kernel
theorem dX8_findAirBy_1 : decode cX8_findAirBy 1 = .ok (.istore_n 3, 1) := by decide +kernel
theorem dX8_findAirBy_2 : decode cX8_findAirBy 2 = .ok (.iload_n 3, 1) := by decide +kernel
theorem dX8_findAirBy_3 : decode cX8_findAirBy 3 = .ok (.aload_n 0, 1) := by decide +kernel
theorem dX8_findAirBy_4 : decode cX8_findAirBy 4 = .ok (.getfield 99, 3) := by decide +kernel
theorem dX8_findAirBy_7 : decode cX8_findAirBy 7 = .ok (.if_icmp .ge 73, 3) := by decide +kernel
theorem dX8_findAirBy_10 : decode cX8_findAirBy 10 = .ok (.aload_n 0, 1) := by decide +kernel
theorem dX8_findAirBy_11 : decode cX8_findAirBy 11 = .ok (.getfield 7, 3) := by decide +kernel
theorem dX8_findAirBy_14 : decode cX8_findAirBy 14 = .ok (.iload_n 3, 1) := by decide +kernel
theorem dX8_findAirBy_15 : decode cX8_findAirBy 15 = .ok (.iaload, 1) := by decide +kernel
theorem dX8_findAirBy_16 : decode cX8_findAirBy 16 = .ok (.ldc 106, 2) := by decide +kernel
theorem dX8_findAirBy_18 : decode cX8_findAirBy 18 = .ok (.if_icmp .ne 8, 3) := by decide +kernel
theorem dX8_findAirBy_21 : decode cX8_findAirBy 21 = .ok (.bipush 100, 2) := by decide +kernel
theorem dX8_findAirBy_23 : decode cX8_findAirBy 23 = .ok (.goto 14, 3) := by decide +kernel
theorem dX8_findAirBy_26 : decode cX8_findAirBy 26 = .ok (.aload_n 0, 1) := by decide +kernel
theorem dX8_findAirBy_27 : decode cX8_findAirBy 27 = .ok (.getfield 22, 3) := by decide +kernel
theorem dX8_findAirBy_30 : decode cX8_findAirBy 30 = .ok (.aload_n 0, 1) := by decide +kernel
theorem dX8_findAirBy_31 : decode cX8_findAirBy 31 = .ok (.getfield 7, 3) := by decide +kernel
theorem dX8_findAirBy_34 : decode cX8_findAirBy 34 = .ok (.iload_n 3, 1) := by decide +kernel
theorem dX8_findAirBy_35 : decode cX8_findAirBy 35 = .ok (.iaload, 1) := by decide +kernel
theorem dX8_findAirBy_36 : decode cX8_findAirBy 36 = .ok (.iaload, 1) := by decide +kernel
theorem dX8_findAirBy_37 : decode cX8_findAirBy 37 = .ok (.aload_n 0, 1) := by decide +kernel
theorem dX8_findAirBy_38 : decode cX8_findAirBy 38 = .ok (.getfield 13, 3) := by decide +kernel
theorem dX8_findAirBy_41 : decode cX8_findAirBy 41 = .ok (.iload_n 3, 1) := by decide +kernel
theorem dX8_findAirBy_42 : decode cX8_findAirBy 42 = .ok (.iaload, 1) := by decide +kernel
theorem dX8_findAirBy_43 : decode cX8_findAirBy 43 = .ok (.isub, 1) := by decide +kernel
theorem dX8_findAirBy_44 : decode cX8_findAirBy 44 = .ok (.iload_n 3, 1) := by decide +kernel
theorem dX8_findAirBy_45 : decode cX8_findAirBy 45 = .ok (.iload_n 1, 1) := by decide +kernel
theorem dX8_findAirBy_46 : decode cX8_findAirBy 46 = .ok (.if_icmp .ne 7, 3) := by decide +kernel
theorem dX8_findAirBy_49 : decode cX8_findAirBy 49 = .ok (.iload_n 2, 1) := by decide +kernel
theorem dX8_findAirBy_50 : decode cX8_findAirBy 50 = .ok (.goto 4, 3) := by decide +kernel
theorem dX8_findAirBy_53 : decode cX8_findAirBy 53 = .ok (.iconst 0, 1) := by decide +kernel
theorem dX8_findAirBy_54 : decode cX8_findAirBy 54 = .ok (.isub, 1) := by decide +kernel
theorem dX8_findAirBy_55 : decode cX8_findAirBy 55 = .ok (.istore 4, 2) := by decide +kernel
theorem dX8_findAirBy_57 : decode cX8_findAirBy 57 = .ok (.aload_n 0, 1) := by decide +kernel
theorem dX8_findAirBy_58 : decode cX8_findAirBy 58 = .ok (.getfield 22, 3) := by decide +kernel
theorem dX8_findAirBy_61 : decode cX8_findAirBy 61 = .ok (.iload_n 3, 1) := by decide +kernel
theorem dX8_findAirBy_62 : decode cX8_findAirBy 62 = .ok (.iload 4, 2) := by decide +kernel
theorem dX8_findAirBy_64 : decode cX8_findAirBy 64 = .ok (.ifCond .ge 7, 3) := by decide +kernel
theorem dX8_findAirBy_67 : decode cX8_findAirBy 67 = .ok (.iconst 0, 1) := by decide +kernel
theorem dX8_findAirBy_68 : decode cX8_findAirBy 68 = .ok (.goto 5, 3) := by decide +kernel
theorem dX8_findAirBy_71 : decode cX8_findAirBy 71 = .ok (.iload 4, 2) := by decide +kernel
theorem dX8_findAirBy_73 : decode cX8_findAirBy 73 = .ok (.iastore, 1) := by decide +kernel
theorem dX8_findAirBy_74 : decode cX8_findAirBy 74 = .ok (.iinc 3 1, 3) := by decide +kernel
theorem dX8_findAirBy_77 : decode cX8_findAirBy 77 = .ok (.goto (-75), 3) := by decide +kernel
theorem dX8_findAirBy_80 : decode cX8_findAirBy 80 = .ok (.return_, 1) := by decide +kernel
theorem dX8_lagOf_0 : decode cX8_lagOf 0 = .ok (.iconst 0, 1) := by decide +kernel
theorem dX8_lagOf_1 : decode cX8_lagOf 1 = .ok (.istore_n 2, 1) := by decide +kernel
theorem dX8_lagOf_2 : decode cX8_lagOf 2 = .ok (.iload_n 1, 1) := by decide +kernel
theorem dX8_lagOf_3 : decode cX8_lagOf 3 = .ok (.istore_n 3, 1) := by decide +kernel
theorem dX8_lagOf_4 : decode cX8_lagOf 4 = .ok (.iload_n 3, 1) := by decide +kernel
theorem dX8_lagOf_5 : decode cX8_lagOf 5 = .ok (.ldc 106, 2) := by decide +kernel
theorem dX8_lagOf_7 : decode cX8_lagOf 7 = .ok (.if_icmp .eq 22, 3) := by decide +kernel
theorem dX8_lagOf_10 : decode cX8_lagOf 10 = .ok (.iload_n 2, 1) := by decide +kernel
theorem dX8_lagOf_11 : decode cX8_lagOf 11 = .ok (.aload_n 0, 1) := by decide +kernel
theorem dX8_lagOf_12 : decode cX8_lagOf 12 = .ok (.getfield 16, 3) := by decide +kernel
theorem dX8_lagOf_15 : decode cX8_lagOf 15 = .ok (.iload_n 3, 1) := by decide +kernel
theorem dX8_lagOf_16 : decode cX8_lagOf 16 = .ok (.iaload, 1) := by decide +kernel
theorem dX8_lagOf_17 : decode cX8_lagOf 17 = .ok (.iadd, 1) := by decide +kernel
theorem dX8_lagOf_18 : decode cX8_lagOf 18 = .ok (.istore_n 2, 1) := by decide +kernel
theorem dX8_lagOf_19 : decode cX8_lagOf 19 = .ok (.aload_n 0, 1) := by decide +kernel
theorem dX8_lagOf_20 : decode cX8_lagOf 20 = .ok (.getfield 7, 3) := by decide +kernel
theorem dX8_lagOf_23 : decode cX8_lagOf 23 = .ok (.iload_n 3, 1) := by decide +kernel
theorem dX8_lagOf_24 : decode cX8_lagOf 24 = .ok (.iaload, 1) := by decide +kernel
theorem dX8_lagOf_25 : decode cX8_lagOf 25 = .ok (.istore_n 3, 1) := by decide +kernel
theorem dX8_lagOf_26 : decode cX8_lagOf 26 = .ok (.goto (-22), 3) := by decide +kernel
theorem dX8_lagOf_29 : decode cX8_lagOf 29 = .ok (.iload_n 2, 1) := by decide +kernel
theorem dX8_lagOf_30 : decode cX8_lagOf 30 = .ok (.ireturn, 1) := by decide +kernel
set_option maxRecDepth 20000 in
theorem ggX8_told_X8_isPipe : GoodIn wsX8_told wsX8_isPipe := goodIn_r _ [10, 11, 12, 13, 9, 14, 27, 28, 29, 30, 31, 32, 33, 34, 35, 36, 37, 38, 39, 40, 41, 42, 43, 44, 45, 46, 47, 48, 49, 50, 51, 52, 53, 54, 55, 56, 57, 58, 59, 60, 61, 62, 63, 64, 65, 66, 67, 68, 69, 70, 71, 72, 73, 74] (by decide +kernel) (by decide +kernel)
set_option maxRecDepth 20000 in
theorem gX8_told_X8_isPipe : GoodIn wsX8_told (wsV RX8 107 RX8 yX8_isPipe wsX8_isPipe) := goodIn_app (goodIn_of _ (by decide +kernel)) ggX8_told_X8_isPipe
set_option maxRecDepth 20000 in
theorem ggX8_told_X8_in : GoodIn wsX8_told wsX8_in := goodIn_r _ [14] (by decide +kernel) (by decide +kernel)
set_option maxRecDepth 20000 in
theorem gX8_told_X8_in : GoodIn wsX8_told (va_wsS RX8 102 yX8_in wsX8_in) := goodIn_app (goodIn_of _ (by decide +kernel)) ggX8_told_X8_in
set_option maxRecDepth 20000 in
theorem ggX8_told_X8_findAir : GoodIn wsX8_told wsX8_findAir := goodIn_r _ [18, 11, 19, 20, 4, 21, 5, 27, 28, 29, 30, 31, 32, 33, 34, 35, 36, 37, 38, 39, 40, 41, 42, 43, 44, 45, 46, 47, 48, 49, 50, 51, 52, 53, 54, 55, 56, 57, 58, 59, 60, 61, 62, 63, 64, 65, 66, 67, 68, 69, 70, 71, 72, 73, 74] (by decide +kernel) (by decide +kernel)
set_option maxRecDepth 20000 in
theorem gX8_told_X8_findAir : GoodIn wsX8_told (wsV RX8 121 RX8 yX8_findAir wsX8_findAir) := goodIn_app (goodIn_of _ (by decide +kernel)) ggX8_told_X8_findAir
set_option maxRecDepth 20000 in
theorem ggX8_told_X8_lagOf : GoodIn wsX8_told wsX8_lagOf := goodIn_r _ [25, 20, 26, 19, 27, 28, 29, 30, 31, 32, 33, 34, 35, 36, 37, 38, 39, 40, 41, 42, 43, 44, 45, 46, 47, 48, 49, 50, 51, 52, 53, 54, 55, 56, 57, 58, 59, 60, 61, 62, 63, 64, 65, 66, 67, 68, 69, 70, 71, 72, 73, 74] (by decide +kernel) (by decide +kernel)
set_option maxRecDepth 20000 in
theorem gX8_told_X8_lagOf : GoodIn wsX8_told (wsV RX8 124 RX8 yX8_lagOf wsX8_lagOf) := goodIn_app (goodIn_of _ (by decide +kernel)) ggX8_told_X8_lagOf
theorem dX8_told_0 : decode cX8_told 0 = .ok (.aload_n 0, 1) := by decide +kernel
theorem dX8_told_1 : decode cX8_told 1 = .ok (.iconst 0, 1) := by decide +kernel
theorem dX8_told_2 : decode cX8_told 2 = .ok (.putfield 95, 3) := by decide +kernel
theorem dX8_told_5 : decode cX8_told 5 = .ok (.aload_n 0, 1) := by decide +kernel
theorem dX8_told_6 : decode cX8_told 6 = .ok (.iload_n 1, 1) := by decide +kernel
theorem dX8_told_7 : decode cX8_told 7 = .ok (.invokevirtual 107, 3) := by decide +kernel
theorem dX8_told_10 : decode cX8_told 10 = .ok (.ifCond .eq 15, 3) := by decide +kernel
theorem dX8_told_13 : decode cX8_told 13 = .ok (.iload_n 2, 1) := by decide +kernel
theorem dX8_told_14 : decode cX8_told 14 = .ok (.i2l, 1) := by decide +kernel
theorem dX8_told_15 : decode cX8_told 15 = .ok (.lconst 0, 1) := by decide +kernel
theorem dX8_told_16 : decode cX8_told 16 = .ok (.ldc2_w 119, 3) := by decide +kernel
theorem dX8_told_19 : decode cX8_told 19 = .ok (.invokestatic 102, 3) := by decide +kernel
theorem dX8_told_22 : decode cX8_told 22 = .ok (.ifCond .ne 6, 3) := by decide +kernel
theorem dX8_told_25 : decode cX8_told 25 = .ok (.ldc 115, 2) := by decide +kernel
theorem dX8_told_27 : decode cX8_told 27 = .ok (.ireturn, 1) := by decide +kernel
theorem dX8_told_28 : decode cX8_told 28 = .ok (.aload_n 0, 1) := by decide +kernel
theorem dX8_told_29 : decode cX8_told 29 = .ok (.invokevirtual 121, 3) := by decide +kernel
theorem dX8_told_32 : decode cX8_told 32 = .ok (.iload_n 2, 1) := by decide +kernel
theorem dX8_told_33 : decode cX8_told 33 = .ok (.ifCond .ne 12, 3) := by decide +kernel
theorem dX8_told_36 : decode cX8_told 36 = .ok (.aload_n 0, 1) := by decide +kernel
theorem dX8_told_37 : decode cX8_told 37 = .ok (.getfield 22, 3) := by decide +kernel
theorem dX8_told_40 : decode cX8_told 40 = .ok (.iload_n 1, 1) := by decide +kernel
theorem dX8_told_41 : decode cX8_told 41 = .ok (.iaload, 1) := by decide +kernel
theorem dX8_told_42 : decode cX8_told 42 = .ok (.goto 22, 3) := by decide +kernel
theorem dX8_told_45 : decode cX8_told 45 = .ok (.iload_n 2, 1) := by decide +kernel
theorem dX8_told_46 : decode cX8_told 46 = .ok (.iconst 1, 1) := by decide +kernel
theorem dX8_told_47 : decode cX8_told 47 = .ok (.if_icmp .ne 11, 3) := by decide +kernel
theorem dX8_told_50 : decode cX8_told 50 = .ok (.aload_n 0, 1) := by decide +kernel
theorem dX8_told_51 : decode cX8_told 51 = .ok (.iload_n 1, 1) := by decide +kernel
theorem dX8_told_52 : decode cX8_told 52 = .ok (.invokevirtual 124, 3) := by decide +kernel
theorem dX8_told_55 : decode cX8_told 55 = .ok (.goto 9, 3) := by decide +kernel
theorem dX8_told_58 : decode cX8_told 58 = .ok (.aload_n 0, 1) := by decide +kernel
theorem dX8_told_59 : decode cX8_told 59 = .ok (.getfield 19, 3) := by decide +kernel
theorem dX8_told_62 : decode cX8_told 62 = .ok (.iload_n 1, 1) := by decide +kernel
theorem dX8_told_63 : decode cX8_told 63 = .ok (.iaload, 1) := by decide +kernel
theorem dX8_told_64 : decode cX8_told 64 = .ok (.ireturn, 1) := by decide +kernel
set_option maxRecDepth 20000 in
theorem ggX8_isDial_X8_in : GoodIn wsX8_isDial wsX8_in := goodIn_r _ [5] (by decide +kernel) (by decide +kernel)
set_option maxRecDepth 20000 in
theorem gX8_isDial_X8_in : GoodIn wsX8_isDial (va_wsS RX8 102 yX8_in wsX8_in) := goodIn_app (goodIn_of _ (by decide +kernel)) ggX8_isDial_X8_in
theorem dX8_isDial_0 : decode cX8_isDial 0 = .ok (.iload_n 1, 1) := by decide +kernel
theorem dX8_isDial_1 : decode cX8_isDial 1 = .ok (.i2l, 1) := by decide +kernel
theorem dX8_isDial_2 : decode cX8_isDial 2 = .ok (.lconst 0, 1) := by decide +kernel
theorem dX8_isDial_3 : decode cX8_isDial 3 = .ok (.aload_n 0, 1) := by decide +kernel
theorem dX8_isDial_4 : decode cX8_isDial 4 = .ok (.getfield 128, 3) := by decide +kernel
theorem dX8_isDial_7 : decode cX8_isDial 7 = .ok (.iconst 1, 1) := by decide +kernel
theorem dX8_isDial_8 : decode cX8_isDial 8 = .ok (.isub, 1) := by decide +kernel
theorem dX8_isDial_9 : decode cX8_isDial 9 = .ok (.i2l, 1) := by decide +kernel
theorem dX8_isDial_10 : decode cX8_isDial 10 = .ok (.invokestatic 102, 3) := by decide +kernel
theorem dX8_isDial_13 : decode cX8_isDial 13 = .ok (.ireturn, 1) := by decide +kernel
set_option maxRecDepth 20000 in
theorem ggX8_dial_X8_isPipe : GoodIn wsX8_dial wsX8_isPipe := goodIn_r _ [14, 15, 16, 17, 13, 18, 19, 20, 21, 22, 23, 24, 25, 26, 27, 28, 29, 30, 31, 32, 33, 34, 35, 36, 37, 38, 39, 40, 41, 42, 43, 44, 45, 46, 47, 48, 49, 50, 51, 52, 53, 54, 55, 56, 57, 58, 59, 60, 61, 62, 63, 64, 65, 66] (by decide +kernel) (by decide +kernel)
set_option maxRecDepth 20000 in
theorem gX8_dial_X8_isPipe : GoodIn wsX8_dial (wsV RX8 107 RX8 yX8_isPipe wsX8_isPipe) := goodIn_app (goodIn_of _ (by decide +kernel)) ggX8_dial_X8_isPipe
set_option maxRecDepth 20000 in
theorem ggX8_dial_X8_in : GoodIn wsX8_dial wsX8_in := goodIn_r _ [18] (by decide +kernel) (by decide +kernel)
set_option maxRecDepth 20000 in
theorem gX8_dial_X8_in : GoodIn wsX8_dial (va_wsS RX8 102 yX8_in wsX8_in) := goodIn_app (goodIn_of _ (by decide +kernel)) ggX8_dial_X8_in
theorem dX8_dial_0 : decode cX8_dial 0 = .ok (.aload_n 0, 1) := by decide +kernel
theorem dX8_dial_1 : decode cX8_dial 1 = .ok (.iconst 0, 1) := by decide +kernel
theorem dX8_dial_2 : decode cX8_dial 2 = .ok (.putfield 95, 3) := by decide +kernel
theorem dX8_dial_5 : decode cX8_dial 5 = .ok (.aload_n 0, 1) := by decide +kernel
theorem dX8_dial_6 : decode cX8_dial 6 = .ok (.iload_n 1, 1) := by decide +kernel
theorem dX8_dial_7 : decode cX8_dial 7 = .ok (.invokevirtual 107, 3) := by decide +kernel
theorem dX8_dial_10 : decode cX8_dial 10 = .ok (.ifCond .eq 27, 3) := by decide +kernel
theorem dX8_dial_13 : decode cX8_dial 13 = .ok (.iload_n 2, 1) := by decide +kernel
theorem dX8_dial_14 : decode cX8_dial 14 = .ok (.i2l, 1) := by decide +kernel
theorem dX8_dial_15 : decode cX8_dial 15 = .ok (.lconst 1, 1) := by decide +kernel
theorem dX8_dial_16 : decode cX8_dial 16 = .ok (.ldc2_w 131, 3) := by decide +kernel
theorem dX8_dial_19 : decode cX8_dial 19 = .ok (.invokestatic 102, 3) := by decide +kernel
theorem dX8_dial_22 : decode cX8_dial 22 = .ok (.ifCond .eq 15, 3) := by decide +kernel
theorem dX8_dial_25 : decode cX8_dial 25 = .ok (.iload_n 3, 1) := by decide +kernel
theorem dX8_dial_26 : decode cX8_dial 26 = .ok (.i2l, 1) := by decide +kernel
theorem dX8_dial_27 : decode cX8_dial 27 = .ok (.lconst 0, 1) := by decide +kernel
theorem dX8_dial_28 : decode cX8_dial 28 = .ok (.ldc2_w 119, 3) := by decide +kernel
theorem dX8_dial_31 : decode cX8_dial 31 = .ok (.invokestatic 102, 3) := by decide +kernel
theorem dX8_dial_34 : decode cX8_dial 34 = .ok (.ifCond .ne 6, 3) := by decide +kernel
theorem dX8_dial_37 : decode cX8_dial 37 = .ok (.ldc 115, 2) := by decide +kernel
theorem dX8_dial_39 : decode cX8_dial 39 = .ok (.ireturn, 1) := by decide +kernel
theorem dX8_dial_40 : decode cX8_dial 40 = .ok (.aload_n 0, 1) := by decide +kernel
theorem dX8_dial_41 : decode cX8_dial 41 = .ok (.getfield 128, 3) := by decide +kernel
theorem dX8_dial_44 : decode cX8_dial 44 = .ok (.bipush 40, 2) := by decide +kernel
theorem dX8_dial_46 : decode cX8_dial 46 = .ok (.if_icmp .ne 6, 3) := by decide +kernel
theorem dX8_dial_49 : decode cX8_dial 49 = .ok (.ldc 116, 2) := by decide +kernel
theorem dX8_dial_51 : decode cX8_dial 51 = .ok (.ireturn, 1) := by decide +kernel
theorem dX8_dial_52 : decode cX8_dial 52 = .ok (.aload_n 0, 1) := by decide +kernel
theorem dX8_dial_53 : decode cX8_dial 53 = .ok (.getfield 25, 3) := by decide +kernel
theorem dX8_dial_56 : decode cX8_dial 56 = .ok (.aload_n 0, 1) := by decide +kernel
theorem dX8_dial_57 : decode cX8_dial 57 = .ok (.getfield 128, 3) := by decide +kernel
theorem dX8_dial_60 : decode cX8_dial 60 = .ok (.iload_n 1, 1) := by decide +kernel
theorem dX8_dial_61 : decode cX8_dial 61 = .ok (.iastore, 1) := by decide +kernel
theorem dX8_dial_62 : decode cX8_dial 62 = .ok (.aload_n 0, 1) := by decide +kernel
theorem dX8_dial_63 : decode cX8_dial 63 = .ok (.getfield 28, 3) := by decide +kernel
theorem dX8_dial_66 : decode cX8_dial 66 = .ok (.aload_n 0, 1) := by decide +kernel
theorem dX8_dial_67 : decode cX8_dial 67 = .ok (.getfield 128, 3) := by decide +kernel
theorem dX8_dial_70 : decode cX8_dial 70 = .ok (.iload_n 2, 1) := by decide +kernel
theorem dX8_dial_71 : decode cX8_dial 71 = .ok (.iastore, 1) := by decide +kernel
theorem dX8_dial_72 : decode cX8_dial 72 = .ok (.aload_n 0, 1) := by decide +kernel
theorem dX8_dial_73 : decode cX8_dial 73 = .ok (.getfield 31, 3) := by decide +kernel
theorem dX8_dial_76 : decode cX8_dial 76 = .ok (.aload_n 0, 1) := by decide +kernel
theorem dX8_dial_77 : decode cX8_dial 77 = .ok (.getfield 128, 3) := by decide +kernel
theorem dX8_dial_80 : decode cX8_dial 80 = .ok (.iload_n 3, 1) := by decide +kernel
theorem dX8_dial_81 : decode cX8_dial 81 = .ok (.iastore, 1) := by decide +kernel
theorem dX8_dial_82 : decode cX8_dial 82 = .ok (.aload_n 0, 1) := by decide +kernel
theorem dX8_dial_83 : decode cX8_dial 83 = .ok (.dup, 1) := by decide +kernel
theorem dX8_dial_84 : decode cX8_dial 84 = .ok (.getfield 128, 3) := by decide +kernel
theorem dX8_dial_87 : decode cX8_dial 87 = .ok (.iconst 1, 1) := by decide +kernel
theorem dX8_dial_88 : decode cX8_dial 88 = .ok (.iadd, 1) := by decide +kernel
theorem dX8_dial_89 : decode cX8_dial 89 = .ok (.putfield 128, 3) := by decide +kernel
theorem dX8_dial_92 : decode cX8_dial 92 = .ok (.aload_n 0, 1) := by decide +kernel
theorem dX8_dial_93 : decode cX8_dial 93 = .ok (.getfield 128, 3) := by decide +kernel
theorem dX8_dial_96 : decode cX8_dial 96 = .ok (.iconst 1, 1) := by decide +kernel
theorem dX8_dial_97 : decode cX8_dial 97 = .ok (.isub, 1) := by decide +kernel
theorem dX8_dial_98 : decode cX8_dial 98 = .ok (.ireturn, 1) := by decide +kernel
set_option maxRecDepth 20000 in
theorem ggX8_puff_X8_findAir : GoodIn wsX8_puff wsX8_findAir := goodIn_r _ [23, 24, 25, 26, 9, 27, 28, 29, 30, 31, 32, 33, 34, 35, 36, 37, 38, 39, 40, 41, 42, 43, 44, 45, 46, 47, 48, 49, 50, 51, 52, 53, 54, 55, 56, 57, 58, 59, 60, 61, 62, 63, 64, 65, 66, 67, 68, 69, 70, 71, 72, 73, 74, 75, 76] (by decide +kernel) (by decide +kernel)
set_option maxRecDepth 20000 in
theorem gX8_puff_X8_findAir : GoodIn wsX8_puff (wsV RX8 121 RX8 yX8_findAir wsX8_findAir) := goodIn_app (goodIn_of _ (by decide +kernel)) ggX8_puff_X8_findAir
theorem dX8_puff_0 : decode cX8_puff 0 = .ok (.aload_n 0, 1) := by decide +kernel
theorem dX8_puff_1 : decode cX8_puff 1 = .ok (.iconst 0, 1) := by decide +kernel
theorem dX8_puff_2 : decode cX8_puff 2 = .ok (.putfield 95, 3) := by decide +kernel
theorem dX8_puff_5 : decode cX8_puff 5 = .ok (.aload_n 0, 1) := by decide +kernel
theorem dX8_puff_6 : decode cX8_puff 6 = .ok (.getfield 133, 3) := by decide +kernel
theorem dX8_puff_9 : decode cX8_puff 9 = .ok (.ldc 136, 2) := by decide +kernel
theorem dX8_puff_11 : decode cX8_puff 11 = .ok (.if_icmp .ne 6, 3) := by decide +kernel
theorem dX8_puff_14 : decode cX8_puff 14 = .ok (.ldc 137, 2) := by decide +kernel
theorem dX8_puff_16 : decode cX8_puff 16 = .ok (.ireturn, 1) := by decide +kernel
theorem dX8_puff_17 : decode cX8_puff 17 = .ok (.aload_n 0, 1) := by decide +kernel
theorem dX8_puff_18 : decode cX8_puff 18 = .ok (.dup, 1) := by decide +kernel
theorem dX8_puff_19 : decode cX8_puff 19 = .ok (.getfield 133, 3) := by decide +kernel
theorem dX8_puff_22 : decode cX8_puff 22 = .ok (.iconst 1, 1) := by decide +kernel
theorem dX8_puff_23 : decode cX8_puff 23 = .ok (.iadd, 1) := by decide +kernel
theorem dX8_puff_24 : decode cX8_puff 24 = .ok (.putfield 133, 3) := by decide +kernel
theorem dX8_puff_27 : decode cX8_puff 27 = .ok (.aload_n 0, 1) := by decide +kernel
theorem dX8_puff_28 : decode cX8_puff 28 = .ok (.dup, 1) := by decide +kernel
theorem dX8_puff_29 : decode cX8_puff 29 = .ok (.getfield 138, 3) := by decide +kernel
theorem dX8_puff_32 : decode cX8_puff 32 = .ok (.aload_n 0, 1) := by decide +kernel
theorem dX8_puff_33 : decode cX8_puff 33 = .ok (.getfield 142, 3) := by decide +kernel
theorem dX8_puff_36 : decode cX8_puff 36 = .ok (.i2l, 1) := by decide +kernel
theorem dX8_puff_37 : decode cX8_puff 37 = .ok (.ladd, 1) := by decide +kernel
theorem dX8_puff_38 : decode cX8_puff 38 = .ok (.putfield 138, 3) := by decide +kernel
theorem dX8_puff_41 : decode cX8_puff 41 = .ok (.aload_n 0, 1) := by decide +kernel
theorem dX8_puff_42 : decode cX8_puff 42 = .ok (.invokevirtual 121, 3) := by decide +kernel
theorem dX8_puff_45 : decode cX8_puff 45 = .ok (.iconst 0, 1) := by decide +kernel
theorem dX8_puff_46 : decode cX8_puff 46 = .ok (.istore_n 1, 1) := by decide +kernel
theorem dX8_puff_47 : decode cX8_puff 47 = .ok (.iconst 0, 1) := by decide +kernel
theorem dX8_puff_48 : decode cX8_puff 48 = .ok (.istore_n 2, 1) := by decide +kernel
theorem dX8_puff_49 : decode cX8_puff 49 = .ok (.iload_n 2, 1) := by decide +kernel
theorem dX8_puff_50 : decode cX8_puff 50 = .ok (.aload_n 0, 1) := by decide +kernel
theorem dX8_puff_51 : decode cX8_puff 51 = .ok (.getfield 128, 3) := by decide +kernel
theorem dX8_puff_54 : decode cX8_puff 54 = .ok (.if_icmp .ge 201, 3) := by decide +kernel
theorem dX8_puff_57 : decode cX8_puff 57 = .ok (.aload_n 0, 1) := by decide +kernel
theorem dX8_puff_58 : decode cX8_puff 58 = .ok (.getfield 46, 3) := by decide +kernel
theorem dX8_puff_61 : decode cX8_puff 61 = .ok (.iload_n 2, 1) := by decide +kernel
theorem dX8_puff_62 : decode cX8_puff 62 = .ok (.aload_n 0, 1) := by decide +kernel
theorem dX8_puff_63 : decode cX8_puff 63 = .ok (.getfield 22, 3) := by decide +kernel
theorem dX8_puff_66 : decode cX8_puff 66 = .ok (.aload_n 0, 1) := by decide +kernel
theorem dX8_puff_67 : decode cX8_puff 67 = .ok (.getfield 25, 3) := by decide +kernel
theorem dX8_puff_70 : decode cX8_puff 70 = .ok (.iload_n 2, 1) := by decide +kernel
theorem dX8_puff_71 : decode cX8_puff 71 = .ok (.iaload, 1) := by decide +kernel
theorem dX8_puff_72 : decode cX8_puff 72 = .ok (.iaload, 1) := by decide +kernel
theorem dX8_puff_73 : decode cX8_puff 73 = .ok (.aload_n 0, 1) := by decide +kernel
theorem dX8_puff_74 : decode cX8_puff 74 = .ok (.getfield 28, 3) := by decide +kernel
theorem dX8_puff_77 : decode cX8_puff 77 = .ok (.iload_n 2, 1) := by decide +kernel
theorem dX8_puff_78 : decode cX8_puff 78 = .ok (.iaload, 1) := by decide +kernel
theorem dX8_puff_79 : decode cX8_puff 79 = .ok (.if_icmp .ge 7, 3) := by decide +kernel
theorem dX8_puff_82 : decode cX8_puff 82 = .ok (.iconst 1, 1) := by decide +kernel
theorem dX8_puff_83 : decode cX8_puff 83 = .ok (.goto 4, 3) := by decide +kernel
theorem dX8_puff_86 : decode cX8_puff 86 = .ok (.iconst 0, 1) := by decide +kernel
theorem dX8_puff_87 : decode cX8_puff 87 = .ok (.bastore, 1) := by decide +kernel
theorem dX8_puff_88 : decode cX8_puff 88 = .ok (.aload_n 0, 1) := by decide +kernel
theorem dX8_puff_89 : decode cX8_puff 89 = .ok (.getfield 34, 3) := by decide +kernel
theorem dX8_puff_92 : decode cX8_puff 92 = .ok (.iload_n 2, 1) := by decide +kernel
theorem dX8_puff_93 : decode cX8_puff 93 = .ok (.dup2, 1) := by decide +kernel
theorem dX8_puff_94 : decode cX8_puff 94 = .ok (.iaload, 1) := by decide +kernel
theorem dX8_puff_95 : decode cX8_puff 95 = .ok (.aload_n 0, 1) := by decide +kernel
theorem dX8_puff_96 : decode cX8_puff 96 = .ok (.getfield 46, 3) := by decide +kernel
theorem dX8_puff_99 : decode cX8_puff 99 = .ok (.iload_n 2, 1) := by decide +kernel
theorem dX8_puff_100 : decode cX8_puff 100 = .ok (.baload, 1) := by decide +kernel
theorem dX8_puff_101 : decode cX8_puff 101 = .ok (.ifCond .eq 7, 3) := by decide +kernel
theorem dX8_puff_104 : decode cX8_puff 104 = .ok (.iconst 1, 1) := by decide +kernel
theorem dX8_puff_105 : decode cX8_puff 105 = .ok (.goto 4, 3) := by decide +kernel
theorem dX8_puff_108 : decode cX8_puff 108 = .ok (.iconst 0, 1) := by decide +kernel
theorem dX8_puff_109 : decode cX8_puff 109 = .ok (.iadd, 1) := by decide +kernel
theorem dX8_puff_110 : decode cX8_puff 110 = .ok (.iastore, 1) := by decide +kernel
theorem dX8_puff_111 : decode cX8_puff 111 = .ok (.aload_n 0, 1) := by decide +kernel
theorem dX8_puff_112 : decode cX8_puff 112 = .ok (.getfield 37, 3) := by decide +kernel
theorem dX8_puff_115 : decode cX8_puff 115 = .ok (.iload_n 2, 1) := by decide +kernel
theorem dX8_puff_116 : decode cX8_puff 116 = .ok (.aload_n 0, 1) := by decide +kernel
theorem dX8_puff_117 : decode cX8_puff 117 = .ok (.getfield 46, 3) := by decide +kernel
theorem dX8_puff_120 : decode cX8_puff 120 = .ok (.iload_n 2, 1) := by decide +kernel
theorem dX8_puff_121 : decode cX8_puff 121 = .ok (.baload, 1) := by decide +kernel
theorem dX8_puff_122 : decode cX8_puff 122 = .ok (.ifCond .eq 14, 3) := by decide +kernel
theorem dX8_puff_125 : decode cX8_puff 125 = .ok (.aload_n 0, 1) := by decide +kernel
theorem dX8_puff_126 : decode cX8_puff 126 = .ok (.getfield 37, 3) := by decide +kernel
theorem dX8_puff_129 : decode cX8_puff 129 = .ok (.iload_n 2, 1) := by decide +kernel
theorem dX8_puff_130 : decode cX8_puff 130 = .ok (.iaload, 1) := by decide +kernel
theorem dX8_puff_131 : decode cX8_puff 131 = .ok (.iconst 1, 1) := by decide +kernel
theorem dX8_puff_132 : decode cX8_puff 132 = .ok (.iadd, 1) := by decide +kernel
theorem dX8_puff_133 : decode cX8_puff 133 = .ok (.goto 4, 3) := by decide +kernel
theorem dX8_puff_136 : decode cX8_puff 136 = .ok (.iconst 0, 1) := by decide +kernel
theorem dX8_puff_137 : decode cX8_puff 137 = .ok (.iastore, 1) := by decide +kernel
theorem dX8_puff_138 : decode cX8_puff 138 = .ok (.aload_n 0, 1) := by decide +kernel
theorem dX8_puff_139 : decode cX8_puff 139 = .ok (.getfield 43, 3) := by decide +kernel
theorem dX8_puff_142 : decode cX8_puff 142 = .ok (.iload_n 2, 1) := by decide +kernel
theorem dX8_puff_143 : decode cX8_puff 143 = .ok (.dup2, 1) := by decide +kernel
theorem dX8_puff_144 : decode cX8_puff 144 = .ok (.iaload, 1) := by decide +kernel
theorem dX8_puff_145 : decode cX8_puff 145 = .ok (.iconst 1, 1) := by decide +kernel
theorem dX8_puff_146 : decode cX8_puff 146 = .ok (.iadd, 1) := by decide +kernel
theorem dX8_puff_147 : decode cX8_puff 147 = .ok (.iastore, 1) := by decide +kernel
theorem dX8_puff_148 : decode cX8_puff 148 = .ok (.iload_n 1, 1) := by decide +kernel
theorem dX8_puff_149 : decode cX8_puff 149 = .ok (.aload_n 0, 1) := by decide +kernel
theorem dX8_puff_150 : decode cX8_puff 150 = .ok (.getfield 46, 3) := by decide +kernel
theorem dX8_puff_153 : decode cX8_puff 153 = .ok (.iload_n 2, 1) := by decide +kernel
theorem dX8_puff_154 : decode cX8_puff 154 = .ok (.baload, 1) := by decide +kernel
theorem dX8_puff_155 : decode cX8_puff 155 = .ok (.ifCond .eq 7, 3) := by decide +kernel
theorem dX8_puff_158 : decode cX8_puff 158 = .ok (.iconst 1, 1) := by decide +kernel
theorem dX8_puff_159 : decode cX8_puff 159 = .ok (.goto 4, 3) := by decide +kernel
theorem dX8_puff_162 : decode cX8_puff 162 = .ok (.iconst 0, 1) := by decide +kernel
theorem dX8_puff_163 : decode cX8_puff 163 = .ok (.iadd, 1) := by decide +kernel
theorem dX8_puff_164 : decode cX8_puff 164 = .ok (.istore_n 1, 1) := by decide +kernel
theorem dX8_puff_165 : decode cX8_puff 165 = .ok (.aload_n 0, 1) := by decide +kernel
theorem dX8_puff_166 : decode cX8_puff 166 = .ok (.getfield 53, 3) := by decide +kernel
theorem dX8_puff_169 : decode cX8_puff 169 = .ok (.iload_n 2, 1) := by decide +kernel
theorem dX8_puff_170 : decode cX8_puff 170 = .ok (.iaload, 1) := by decide +kernel
theorem dX8_puff_171 : decode cX8_puff 171 = .ok (.iconst 1, 1) := by decide +kernel
theorem dX8_puff_172 : decode cX8_puff 172 = .ok (.if_icmp .eq 22, 3) := by decide +kernel
theorem dX8_puff_175 : decode cX8_puff 175 = .ok (.aload_n 0, 1) := by decide +kernel
theorem dX8_puff_176 : decode cX8_puff 176 = .ok (.getfield 53, 3) := by decide +kernel
theorem dX8_puff_179 : decode cX8_puff 179 = .ok (.iload_n 2, 1) := by decide +kernel
theorem dX8_puff_180 : decode cX8_puff 180 = .ok (.iaload, 1) := by decide +kernel
theorem dX8_puff_181 : decode cX8_puff 181 = .ok (.iconst 2, 1) := by decide +kernel
theorem dX8_puff_182 : decode cX8_puff 182 = .ok (.if_icmp .ne 27, 3) := by decide +kernel
theorem dX8_puff_185 : decode cX8_puff 185 = .ok (.aload_n 0, 1) := by decide +kernel
theorem dX8_puff_186 : decode cX8_puff 186 = .ok (.getfield 46, 3) := by decide +kernel
theorem dX8_puff_189 : decode cX8_puff 189 = .ok (.iload_n 2, 1) := by decide +kernel
theorem dX8_puff_190 : decode cX8_puff 190 = .ok (.baload, 1) := by decide +kernel
theorem dX8_puff_191 : decode cX8_puff 191 = .ok (.ifCond .ne 18, 3) := by decide +kernel
theorem dX8_puff_194 : decode cX8_puff 194 = .ok (.aload_n 0, 1) := by decide +kernel
theorem dX8_puff_195 : decode cX8_puff 195 = .ok (.getfield 62, 3) := by decide +kernel
theorem dX8_puff_198 : decode cX8_puff 198 = .ok (.iload_n 2, 1) := by decide +kernel
theorem dX8_puff_199 : decode cX8_puff 199 = .ok (.dup2, 1) := by decide +kernel
theorem dX8_puff_200 : decode cX8_puff 200 = .ok (.iaload, 1) := by decide +kernel
theorem dX8_puff_201 : decode cX8_puff 201 = .ok (.aload_n 0, 1) := by decide +kernel
theorem dX8_puff_202 : decode cX8_puff 202 = .ok (.getfield 56, 3) := by decide +kernel
theorem dX8_puff_205 : decode cX8_puff 205 = .ok (.iload_n 2, 1) := by decide +kernel
theorem dX8_puff_206 : decode cX8_puff 206 = .ok (.iaload, 1) := by decide +kernel
theorem dX8_puff_207 : decode cX8_puff 207 = .ok (.iadd, 1) := by decide +kernel
theorem dX8_puff_208 : decode cX8_puff 208 = .ok (.iastore, 1) := by decide +kernel
theorem dX8_puff_209 : decode cX8_puff 209 = .ok (.aload_n 0, 1) := by decide +kernel
theorem dX8_puff_210 : decode cX8_puff 210 = .ok (.getfield 53, 3) := by decide +kernel
theorem dX8_puff_213 : decode cX8_puff 213 = .ok (.iload_n 2, 1) := by decide +kernel
theorem dX8_puff_214 : decode cX8_puff 214 = .ok (.iaload, 1) := by decide +kernel
theorem dX8_puff_215 : decode cX8_puff 215 = .ok (.iconst 3, 1) := by decide +kernel
theorem dX8_puff_216 : decode cX8_puff 216 = .ok (.if_icmp .ne 33, 3) := by decide +kernel
theorem dX8_puff_219 : decode cX8_puff 219 = .ok (.aload_n 0, 1) := by decide +kernel
theorem dX8_puff_220 : decode cX8_puff 220 = .ok (.getfield 34, 3) := by decide +kernel
theorem dX8_puff_223 : decode cX8_puff 223 = .ok (.iload_n 2, 1) := by decide +kernel
theorem dX8_puff_224 : decode cX8_puff 224 = .ok (.iaload, 1) := by decide +kernel
theorem dX8_puff_225 : decode cX8_puff 225 = .ok (.aload_n 0, 1) := by decide +kernel
theorem dX8_puff_226 : decode cX8_puff 226 = .ok (.getfield 56, 3) := by decide +kernel
theorem dX8_puff_229 : decode cX8_puff 229 = .ok (.iload_n 2, 1) := by decide +kernel
theorem dX8_puff_230 : decode cX8_puff 230 = .ok (.iaload, 1) := by decide +kernel
theorem dX8_puff_231 : decode cX8_puff 231 = .ok (.if_icmp .ge 18, 3) := by decide +kernel
theorem dX8_puff_234 : decode cX8_puff 234 = .ok (.aload_n 0, 1) := by decide +kernel
theorem dX8_puff_235 : decode cX8_puff 235 = .ok (.getfield 62, 3) := by decide +kernel
theorem dX8_puff_238 : decode cX8_puff 238 = .ok (.iload_n 2, 1) := by decide +kernel
theorem dX8_puff_239 : decode cX8_puff 239 = .ok (.dup2, 1) := by decide +kernel
theorem dX8_puff_240 : decode cX8_puff 240 = .ok (.iaload, 1) := by decide +kernel
theorem dX8_puff_241 : decode cX8_puff 241 = .ok (.aload_n 0, 1) := by decide +kernel
theorem dX8_puff_242 : decode cX8_puff 242 = .ok (.getfield 59, 3) := by decide +kernel
theorem dX8_puff_245 : decode cX8_puff 245 = .ok (.iload_n 2, 1) := by decide +kernel
theorem dX8_puff_246 : decode cX8_puff 246 = .ok (.iaload, 1) := by decide +kernel
theorem dX8_puff_247 : decode cX8_puff 247 = .ok (.iadd, 1) := by decide +kernel
theorem dX8_puff_248 : decode cX8_puff 248 = .ok (.iastore, 1) := by decide +kernel
theorem dX8_puff_249 : decode cX8_puff 249 = .ok (.iinc 2 1, 3) := by decide +kernel
theorem dX8_puff_252 : decode cX8_puff 252 = .ok (.goto (-203), 3) := by decide +kernel
theorem dX8_puff_255 : decode cX8_puff 255 = .ok (.iload_n 1, 1) := by decide +kernel
theorem dX8_puff_256 : decode cX8_puff 256 = .ok (.ireturn, 1) := by decide +kernel
set_option maxRecDepth 20000 in
theorem ggX8_drift_X8_in : GoodIn wsX8_drift wsX8_in := goodIn_r _ [9] (by decide +kernel) (by decide +kernel)
set_option maxRecDepth 20000 in
theorem gX8_drift_X8_in : GoodIn wsX8_drift (va_wsS RX8 102 yX8_in wsX8_in) := goodIn_app (goodIn_of _ (by decide +kernel)) ggX8_drift_X8_in
theorem dX8_drift_0 : decode cX8_drift 0 = .ok (.aload_n 0, 1) := by decide +kernel
theorem dX8_drift_1 : decode cX8_drift 1 = .ok (.iconst 0, 1) := by decide +kernel
theorem dX8_drift_2 : decode cX8_drift 2 = .ok (.putfield 95, 3) := by decide +kernel
theorem dX8_drift_5 : decode cX8_drift 5 = .ok (.iload_n 1, 1) := by decide +kernel
theorem dX8_drift_6 : decode cX8_drift 6 = .ok (.i2l, 1) := by decide +kernel
theorem dX8_drift_7 : decode cX8_drift 7 = .ok (.ldc2_w 145, 3) := by decide +kernel
theorem dX8_drift_10 : decode cX8_drift 10 = .ok (.ldc2_w 147, 3) := by decide +kernel
theorem dX8_drift_13 : decode cX8_drift 13 = .ok (.invokestatic 102, 3) := by decide +kernel
theorem dX8_drift_16 : decode cX8_drift 16 = .ok (.ifCond .ne 6, 3) := by decide +kernel
theorem dX8_drift_19 : decode cX8_drift 19 = .ok (.ldc 115, 2) := by decide +kernel
theorem dX8_drift_21 : decode cX8_drift 21 = .ok (.ireturn, 1) := by decide +kernel
theorem dX8_drift_22 : decode cX8_drift 22 = .ok (.aload_n 0, 1) := by decide +kernel
theorem dX8_drift_23 : decode cX8_drift 23 = .ok (.getfield 142, 3) := by decide +kernel
theorem dX8_drift_26 : decode cX8_drift 26 = .ok (.istore_n 2, 1) := by decide +kernel
theorem dX8_drift_27 : decode cX8_drift 27 = .ok (.aload_n 0, 1) := by decide +kernel
theorem dX8_drift_28 : decode cX8_drift 28 = .ok (.iload_n 1, 1) := by decide +kernel
theorem dX8_drift_29 : decode cX8_drift 29 = .ok (.putfield 142, 3) := by decide +kernel
theorem dX8_drift_32 : decode cX8_drift 32 = .ok (.iload_n 2, 1) := by decide +kernel
theorem dX8_drift_33 : decode cX8_drift 33 = .ok (.ireturn, 1) := by decide +kernel
theorem dX8_sight_0 : decode cX8_sight 0 = .ok (.aload_n 0, 1) := by decide +kernel
theorem dX8_sight_1 : decode cX8_sight 1 = .ok (.iconst 0, 1) := by decide +kernel
theorem dX8_sight_2 : decode cX8_sight 2 = .ok (.putfield 95, 3) := by decide +kernel
theorem dX8_sight_5 : decode cX8_sight 5 = .ok (.aload_n 0, 1) := by decide +kernel
theorem dX8_sight_6 : decode cX8_sight 6 = .ok (.getfield 138, 3) := by decide +kernel
theorem dX8_sight_9 : decode cX8_sight 9 = .ok (.lstore_n 1, 1) := by decide +kernel
theorem dX8_sight_10 : decode cX8_sight 10 = .ok (.aload_n 0, 1) := by decide +kernel
theorem dX8_sight_11 : decode cX8_sight 11 = .ok (.lconst 0, 1) := by decide +kernel
theorem dX8_sight_12 : decode cX8_sight 12 = .ok (.putfield 138, 3) := by decide +kernel
theorem dX8_sight_15 : decode cX8_sight 15 = .ok (.aload_n 0, 1) := by decide +kernel
theorem dX8_sight_16 : decode cX8_sight 16 = .ok (.aload_n 0, 1) := by decide +kernel
theorem dX8_sight_17 : decode cX8_sight 17 = .ok (.getfield 133, 3) := by decide +kernel
theorem dX8_sight_20 : decode cX8_sight 20 = .ok (.putfield 149, 3) := by decide +kernel
theorem dX8_sight_23 : decode cX8_sight 23 = .ok (.aload_n 0, 1) := by decide +kernel
theorem dX8_sight_24 : decode cX8_sight 24 = .ok (.dup, 1) := by decide +kernel
theorem dX8_sight_25 : decode cX8_sight 25 = .ok (.getfield 152, 3) := by decide +kernel
theorem dX8_sight_28 : decode cX8_sight 28 = .ok (.iconst 1, 1) := by decide +kernel
theorem dX8_sight_29 : decode cX8_sight 29 = .ok (.iadd, 1) := by decide +kernel
theorem dX8_sight_30 : decode cX8_sight 30 = .ok (.putfield 152, 3) := by decide +kernel
theorem dX8_sight_33 : decode cX8_sight 33 = .ok (.lload_n 1, 1) := by decide +kernel
theorem dX8_sight_34 : decode cX8_sight 34 = .ok (.lreturn, 1) := by decide +kernel
theorem dX8_now_0 : decode cX8_now 0 = .ok (.aload_n 0, 1) := by decide +kernel
theorem dX8_now_1 : decode cX8_now 1 = .ok (.iconst 0, 1) := by decide +kernel
theorem dX8_now_2 : decode cX8_now 2 = .ok (.putfield 95, 3) := by decide +kernel
theorem dX8_now_5 : decode cX8_now 5 = .ok (.aload_n 0, 1) := by decide +kernel
theorem dX8_now_6 : decode cX8_now 6 = .ok (.getfield 133, 3) := by decide +kernel
theorem dX8_now_9 : decode cX8_now 9 = .ok (.aload_n 0, 1) := by decide +kernel
theorem dX8_now_10 : decode cX8_now 10 = .ok (.getfield 149, 3) := by decide +kernel
theorem dX8_now_13 : decode cX8_now 13 = .ok (.isub, 1) := by decide +kernel
theorem dX8_now_14 : decode cX8_now 14 = .ok (.i2l, 1) := by decide +kernel
theorem dX8_now_15 : decode cX8_now 15 = .ok (.lstore_n 2, 1) := by decide +kernel
theorem dX8_now_16 : decode cX8_now 16 = .ok (.iload_n 1, 1) := by decide +kernel
theorem dX8_now_17 : decode cX8_now 17 = .ok (.ifCond .ne 11, 3) := by decide +kernel
theorem dX8_now_20 : decode cX8_now 20 = .ok (.aload_n 0, 1) := by decide +kernel
theorem dX8_now_21 : decode cX8_now 21 = .ok (.getfield 133, 3) := by decide +kernel
theorem dX8_now_24 : decode cX8_now 24 = .ok (.i2l, 1) := by decide +kernel
theorem dX8_now_25 : decode cX8_now 25 = .ok (.goto 57, 3) := by decide +kernel
theorem dX8_now_28 : decode cX8_now 28 = .ok (.iload_n 1, 1) := by decide +kernel
theorem dX8_now_29 : decode cX8_now 29 = .ok (.iconst 1, 1) := by decide +kernel
theorem dX8_now_30 : decode cX8_now 30 = .ok (.if_icmp .ne 10, 3) := by decide +kernel
theorem dX8_now_33 : decode cX8_now 33 = .ok (.aload_n 0, 1) := by decide +kernel
theorem dX8_now_34 : decode cX8_now 34 = .ok (.getfield 138, 3) := by decide +kernel
theorem dX8_now_37 : decode cX8_now 37 = .ok (.goto 45, 3) := by decide +kernel
theorem dX8_now_40 : decode cX8_now 40 = .ok (.iload_n 1, 1) := by decide +kernel
theorem dX8_now_41 : decode cX8_now 41 = .ok (.iconst 2, 1) := by decide +kernel
theorem dX8_now_42 : decode cX8_now 42 = .ok (.if_icmp .ne 11, 3) := by decide +kernel
theorem dX8_now_45 : decode cX8_now 45 = .ok (.ldc2_w 145, 3) := by decide +kernel
theorem dX8_now_48 : decode cX8_now 48 = .ok (.lload_n 2, 1) := by decide +kernel
theorem dX8_now_49 : decode cX8_now 49 = .ok (.lmul, 1) := by decide +kernel
theorem dX8_now_50 : decode cX8_now 50 = .ok (.goto 32, 3) := by decide +kernel
theorem dX8_now_53 : decode cX8_now 53 = .ok (.iload_n 1, 1) := by decide +kernel
theorem dX8_now_54 : decode cX8_now 54 = .ok (.iconst 3, 1) := by decide +kernel
theorem dX8_now_55 : decode cX8_now 55 = .ok (.if_icmp .ne 11, 3) := by decide +kernel
theorem dX8_now_58 : decode cX8_now 58 = .ok (.ldc2_w 147, 3) := by decide +kernel
theorem dX8_now_61 : decode cX8_now 61 = .ok (.lload_n 2, 1) := by decide +kernel
theorem dX8_now_62 : decode cX8_now 62 = .ok (.lmul, 1) := by decide +kernel
theorem dX8_now_63 : decode cX8_now 63 = .ok (.goto 19, 3) := by decide +kernel
theorem dX8_now_66 : decode cX8_now 66 = .ok (.iload_n 1, 1) := by decide +kernel
theorem dX8_now_67 : decode cX8_now 67 = .ok (.iconst 4, 1) := by decide +kernel
theorem dX8_now_68 : decode cX8_now 68 = .ok (.if_icmp .ne 11, 3) := by decide +kernel
theorem dX8_now_71 : decode cX8_now 71 = .ok (.aload_n 0, 1) := by decide +kernel
theorem dX8_now_72 : decode cX8_now 72 = .ok (.getfield 152, 3) := by decide +kernel
theorem dX8_now_75 : decode cX8_now 75 = .ok (.i2l, 1) := by decide +kernel
theorem dX8_now_76 : decode cX8_now 76 = .ok (.goto 6, 3) := by decide +kernel
theorem dX8_now_79 : decode cX8_now 79 = .ok (.ldc2_w 155, 3) := by decide +kernel
theorem dX8_now_82 : decode cX8_now 82 = .ok (.lreturn, 1) := by decide +kernel
set_option maxRecDepth 20000 in
theorem ggX8_look_X8_isDial : GoodIn wsX8_look wsX8_isDial := goodIn_r _ [10, 11, 12, 13, 9, 14, 15, 16, 17, 18, 19, 20, 21, 22, 23, 24, 25, 26, 27, 28, 29, 30, 31, 32, 33, 34, 35, 36, 37, 38, 39, 40, 41, 42, 43, 44, 45, 46, 47, 48, 49, 50, 51, 52, 53, 54, 55, 56, 57, 58, 59, 60, 61, 62] (by decide +kernel) (by decide +kernel)
set_option maxRecDepth 20000 in
theorem gX8_look_X8_isDial : GoodIn wsX8_look (wsV RX8 157 RX8 yX8_isDial wsX8_isDial) := goodIn_app (goodIn_of _ (by decide +kernel)) ggX8_look_X8_isDial
theorem dX8_look_0 : decode cX8_look 0 = .ok (.aload_n 0, 1) := by decide +kernel
theorem dX8_look_1 : decode cX8_look 1 = .ok (.iconst 0, 1) := by decide +kernel
theorem dX8_look_2 : decode cX8_look 2 = .ok (.putfield 95, 3) := by decide +kernel
theorem dX8_look_5 : decode cX8_look 5 = .ok (.aload_n 0, 1) := by decide +kernel
theorem dX8_look_6 : decode cX8_look 6 = .ok (.iload_n 1, 1) := by decide +kernel
theorem dX8_look_7 : decode cX8_look 7 = .ok (.invokevirtual 157, 3) := by decide +kernel
theorem dX8_look_10 : decode cX8_look 10 = .ok (.ifCond .ne 6, 3) := by decide +kernel
theorem dX8_look_13 : decode cX8_look 13 = .ok (.ldc 115, 2) := by decide +kernel
theorem dX8_look_15 : decode cX8_look 15 = .ok (.ireturn, 1) := by decide +kernel
theorem dX8_look_16 : decode cX8_look 16 = .ok (.aload_n 0, 1) := by decide +kernel
theorem dX8_look_17 : decode cX8_look 17 = .ok (.getfield 40, 3) := by decide +kernel
theorem dX8_look_20 : decode cX8_look 20 = .ok (.iload_n 1, 1) := by decide +kernel
theorem dX8_look_21 : decode cX8_look 21 = .ok (.aload_n 0, 1) := by decide +kernel
theorem dX8_look_22 : decode cX8_look 22 = .ok (.getfield 34, 3) := by decide +kernel
theorem dX8_look_25 : decode cX8_look 25 = .ok (.iload_n 1, 1) := by decide +kernel
theorem dX8_look_26 : decode cX8_look 26 = .ok (.iaload, 1) := by decide +kernel
theorem dX8_look_27 : decode cX8_look 27 = .ok (.iastore, 1) := by decide +kernel
theorem dX8_look_28 : decode cX8_look 28 = .ok (.aload_n 0, 1) := by decide +kernel
theorem dX8_look_29 : decode cX8_look 29 = .ok (.getfield 43, 3) := by decide +kernel
theorem dX8_look_32 : decode cX8_look 32 = .ok (.iload_n 1, 1) := by decide +kernel
theorem dX8_look_33 : decode cX8_look 33 = .ok (.iconst 0, 1) := by decide +kernel
theorem dX8_look_34 : decode cX8_look 34 = .ok (.iastore, 1) := by decide +kernel
theorem dX8_look_35 : decode cX8_look 35 = .ok (.aload_n 0, 1) := by decide +kernel
theorem dX8_look_36 : decode cX8_look 36 = .ok (.getfield 34, 3) := by decide +kernel
theorem dX8_look_39 : decode cX8_look 39 = .ok (.iload_n 1, 1) := by decide +kernel
theorem dX8_look_40 : decode cX8_look 40 = .ok (.iaload, 1) := by decide +kernel
theorem dX8_look_41 : decode cX8_look 41 = .ok (.ireturn, 1) := by decide +kernel
set_option maxRecDepth 20000 in
theorem ggX8_state_X8_isDial : GoodIn wsX8_state wsX8_isDial := goodIn_r _ [14, 15, 16, 17, 13, 18, 19, 20, 21, 22, 23, 24, 25, 26, 27, 28, 29, 30, 31, 32, 33, 34, 35, 36, 37, 38, 39, 40, 41, 42, 43, 44, 45, 46, 47, 48, 49, 50, 51, 52, 53, 54, 55, 56, 57, 58, 59, 60, 61, 62, 63, 64, 65, 66] (by decide +kernel) (by decide +kernel)
set_option maxRecDepth 20000 in
theorem gX8_state_X8_isDial : GoodIn wsX8_state (wsV RX8 157 RX8 yX8_isDial wsX8_isDial) := goodIn_app (goodIn_of _ (by decide +kernel)) ggX8_state_X8_isDial
set_option maxRecDepth 20000 in
theorem ggX8_state_X8_in : GoodIn wsX8_state wsX8_in := goodIn_r _ [18] (by decide +kernel) (by decide +kernel)
set_option maxRecDepth 20000 in
theorem gX8_state_X8_in : GoodIn wsX8_state (va_wsS RX8 102 yX8_in wsX8_in) := goodIn_app (goodIn_of _ (by decide +kernel)) ggX8_state_X8_in
theorem dX8_state_0 : decode cX8_state 0 = .ok (.aload_n 0, 1) := by decide +kernel
theorem dX8_state_1 : decode cX8_state 1 = .ok (.iconst 0, 1) := by decide +kernel
theorem dX8_state_2 : decode cX8_state 2 = .ok (.putfield 95, 3) := by decide +kernel
theorem dX8_state_5 : decode cX8_state 5 = .ok (.aload_n 0, 1) := by decide +kernel
theorem dX8_state_6 : decode cX8_state 6 = .ok (.iload_n 1, 1) := by decide +kernel
theorem dX8_state_7 : decode cX8_state 7 = .ok (.invokevirtual 157, 3) := by decide +kernel
theorem dX8_state_10 : decode cX8_state 10 = .ok (.ifCond .eq 15, 3) := by decide +kernel
theorem dX8_state_13 : decode cX8_state 13 = .ok (.iload_n 2, 1) := by decide +kernel
theorem dX8_state_14 : decode cX8_state 14 = .ok (.i2l, 1) := by decide +kernel
theorem dX8_state_15 : decode cX8_state 15 = .ok (.lconst 0, 1) := by decide +kernel
theorem dX8_state_16 : decode cX8_state 16 = .ok (.ldc2_w 147, 3) := by decide +kernel
theorem dX8_state_19 : decode cX8_state 19 = .ok (.invokestatic 102, 3) := by decide +kernel
theorem dX8_state_22 : decode cX8_state 22 = .ok (.ifCond .ne 6, 3) := by decide +kernel
theorem dX8_state_25 : decode cX8_state 25 = .ok (.ldc 115, 2) := by decide +kernel
theorem dX8_state_27 : decode cX8_state 27 = .ok (.ireturn, 1) := by decide +kernel
theorem dX8_state_28 : decode cX8_state 28 = .ok (.iload_n 2, 1) := by decide +kernel
theorem dX8_state_29 : decode cX8_state 29 = .ok (.ifCond .ne 12, 3) := by decide +kernel
theorem dX8_state_32 : decode cX8_state 32 = .ok (.aload_n 0, 1) := by decide +kernel
theorem dX8_state_33 : decode cX8_state 33 = .ok (.getfield 34, 3) := by decide +kernel
theorem dX8_state_36 : decode cX8_state 36 = .ok (.iload_n 1, 1) := by decide +kernel
theorem dX8_state_37 : decode cX8_state 37 = .ok (.iaload, 1) := by decide +kernel
theorem dX8_state_38 : decode cX8_state 38 = .ok (.goto 72, 3) := by decide +kernel
end
section
theorem dX8_state_41 : decode cX8_state 41 = .ok (.iload_n 2, 1) := by decide +kernel
theorem dX8_state_42 : decode cX8_state 42 = .ok (.iconst 1, 1) := by decide +kernel
theorem dX8_state_43 : decode cX8_state 43 = .ok (.if_icmp .ne 12, 3) := by decide +kernel
theorem dX8_state_46 : decode cX8_state 46 = .ok (.aload_n 0, 1) := by decide +kernel
theorem dX8_state_47 : decode cX8_state 47 = .ok (.getfield 40, 3) := by decide +kernel
theorem dX8_state_50 : decode cX8_state 50 = .ok (.iload_n 1, 1) := by decide +kernel
theorem dX8_state_51 : decode cX8_state 51 = .ok (.iaload, 1) := by decide +kernel
theorem dX8_state_52 : decode cX8_state 52 = .ok (.goto 58, 3) := by decide +kernel
theorem dX8_state_55 : decode cX8_state 55 = .ok (.iload_n 2, 1) := by decide +kernel
theorem dX8_state_56 : decode cX8_state 56 = .ok (.iconst 2, 1) := by decide +kernel
theorem dX8_state_57 : decode cX8_state 57 = .ok (.if_icmp .ne 19, 3) := by decide +kernel
theorem dX8_state_60 : decode cX8_state 60 = .ok (.aload_n 0, 1) := by decide +kernel
theorem dX8_state_61 : decode cX8_state 61 = .ok (.getfield 40, 3) := by decide +kernel
theorem dX8_state_64 : decode cX8_state 64 = .ok (.iload_n 1, 1) := by decide +kernel
theorem dX8_state_65 : decode cX8_state 65 = .ok (.iaload, 1) := by decide +kernel
theorem dX8_state_66 : decode cX8_state 66 = .ok (.aload_n 0, 1) := by decide +kernel
theorem dX8_state_67 : decode cX8_state 67 = .ok (.getfield 43, 3) := by decide +kernel
theorem dX8_state_70 : decode cX8_state 70 = .ok (.iload_n 1, 1) := by decide +kernel
theorem dX8_state_71 : decode cX8_state 71 = .ok (.iaload, 1) := by decide +kernel
theorem dX8_state_72 : decode cX8_state 72 = .ok (.iadd, 1) := by decide +kernel
theorem dX8_state_73 : decode cX8_state 73 = .ok (.goto 37, 3) := by decide +kernel
theorem dX8_state_76 : decode cX8_state 76 = .ok (.iload_n 2, 1) := by decide +kernel
theorem dX8_state_77 : decode cX8_state 77 = .ok (.iconst 3, 1) := by decide +kernel
theorem dX8_state_78 : decode cX8_state 78 = .ok (.if_icmp .ne 12, 3) := by decide +kernel
theorem dX8_state_81 : decode cX8_state 81 = .ok (.aload_n 0, 1) := by decide +kernel
theorem dX8_state_82 : decode cX8_state 82 = .ok (.getfield 37, 3) := by decide +kernel
theorem dX8_state_85 : decode cX8_state 85 = .ok (.iload_n 1, 1) := by decide +kernel
theorem dX8_state_86 : decode cX8_state 86 = .ok (.iaload, 1) := by decide +kernel
theorem dX8_state_87 : decode cX8_state 87 = .ok (.goto 23, 3) := by decide +kernel
theorem dX8_state_90 : decode cX8_state 90 = .ok (.iload_n 2, 1) := by decide +kernel
theorem dX8_state_91 : decode cX8_state 91 = .ok (.iconst 4, 1) := by decide +kernel
theorem dX8_state_92 : decode cX8_state 92 = .ok (.if_icmp .ne 12, 3) := by decide +kernel
theorem dX8_state_95 : decode cX8_state 95 = .ok (.aload_n 0, 1) := by decide +kernel
theorem dX8_state_96 : decode cX8_state 96 = .ok (.getfield 25, 3) := by decide +kernel
theorem dX8_state_99 : decode cX8_state 99 = .ok (.iload_n 1, 1) := by decide +kernel
theorem dX8_state_100 : decode cX8_state 100 = .ok (.iaload, 1) := by decide +kernel
theorem dX8_state_101 : decode cX8_state 101 = .ok (.goto 9, 3) := by decide +kernel
theorem dX8_state_104 : decode cX8_state 104 = .ok (.aload_n 0, 1) := by decide +kernel
theorem dX8_state_105 : decode cX8_state 105 = .ok (.getfield 28, 3) := by decide +kernel
theorem dX8_state_108 : decode cX8_state 108 = .ok (.iload_n 1, 1) := by decide +kernel
theorem dX8_state_109 : decode cX8_state 109 = .ok (.iaload, 1) := by decide +kernel
theorem dX8_state_110 : decode cX8_state 110 = .ok (.ireturn, 1) := by decide +kernel
set_option maxRecDepth 20000 in
theorem ggX8_put_X8_isDial : GoodIn wsX8_put wsX8_isDial := goodIn_r _ [11, 12, 13, 14, 10, 15, 16, 17, 18, 19, 20, 21, 22, 23, 24, 25, 26, 27, 28, 29, 30, 31, 32, 33, 34, 35, 36, 37, 38, 39, 40, 41, 42, 43, 44, 45, 46, 47, 48, 49, 50, 51, 52, 53, 54, 55, 56, 57, 58, 59, 60, 61, 62, 63] (by decide +kernel) (by decide +kernel)
set_option maxRecDepth 20000 in
theorem gX8_put_X8_isDial : GoodIn wsX8_put (wsV RX8 157 RX8 yX8_isDial wsX8_isDial) := goodIn_app (goodIn_of _ (by decide +kernel)) ggX8_put_X8_isDial
set_option maxRecDepth 20000 in
theorem ggX8_put_X8_in : GoodIn wsX8_put wsX8_in := goodIn_r _ [15] (by decide +kernel) (by decide +kernel)
set_option maxRecDepth 20000 in
theorem gX8_put_X8_in : GoodIn wsX8_put (va_wsS RX8 102 yX8_in wsX8_in) := goodIn_app (goodIn_of _ (by decide +kernel)) ggX8_put_X8_in
theorem dX8_put_0 : decode cX8_put 0 = .ok (.aload_n 0, 1) := by decide +kernel
theorem dX8_put_1 : decode cX8_put 1 = .ok (.iconst 0, 1) := by decide +kernel
theorem dX8_put_2 : decode cX8_put 2 = .ok (.putfield 95, 3) := by decide +kernel
theorem dX8_put_5 : decode cX8_put 5 = .ok (.aload_n 0, 1) := by decide +kernel
theorem dX8_put_6 : decode cX8_put 6 = .ok (.iload_n 1, 1) := by decide +kernel
theorem dX8_put_7 : decode cX8_put 7 = .ok (.invokevirtual 157, 3) := by decide +kernel
theorem dX8_put_10 : decode cX8_put 10 = .ok (.ifCond .eq 21, 3) := by decide +kernel
theorem dX8_put_13 : decode cX8_put 13 = .ok (.iload_n 2, 1) := by decide +kernel
theorem dX8_put_14 : decode cX8_put 14 = .ok (.i2l, 1) := by decide +kernel
theorem dX8_put_15 : decode cX8_put 15 = .ok (.ldc2_w 160, 3) := by decide +kernel
theorem dX8_put_18 : decode cX8_put 18 = .ok (.ldc2_w 117, 3) := by decide +kernel
theorem dX8_put_21 : decode cX8_put 21 = .ok (.invokestatic 102, 3) := by decide +kernel
theorem dX8_put_24 : decode cX8_put 24 = .ok (.ifCond .eq 7, 3) := by decide +kernel
theorem dX8_put_27 : decode cX8_put 27 = .ok (.iload_n 2, 1) := by decide +kernel
theorem dX8_put_28 : decode cX8_put 28 = .ok (.ifCond .ne 6, 3) := by decide +kernel
theorem dX8_put_31 : decode cX8_put 31 = .ok (.ldc 115, 2) := by decide +kernel
theorem dX8_put_33 : decode cX8_put 33 = .ok (.ireturn, 1) := by decide +kernel
theorem dX8_put_34 : decode cX8_put 34 = .ok (.aload_n 0, 1) := by decide +kernel
theorem dX8_put_35 : decode cX8_put 35 = .ok (.getfield 34, 3) := by decide +kernel
theorem dX8_put_38 : decode cX8_put 38 = .ok (.iload_n 1, 1) := by decide +kernel
theorem dX8_put_39 : decode cX8_put 39 = .ok (.dup2, 1) := by decide +kernel
theorem dX8_put_40 : decode cX8_put 40 = .ok (.iaload, 1) := by decide +kernel
theorem dX8_put_41 : decode cX8_put 41 = .ok (.iload_n 2, 1) := by decide +kernel
theorem dX8_put_42 : decode cX8_put 42 = .ok (.isub, 1) := by decide +kernel
theorem dX8_put_43 : decode cX8_put 43 = .ok (.iastore, 1) := by decide +kernel
theorem dX8_put_44 : decode cX8_put 44 = .ok (.aload_n 0, 1) := by decide +kernel
theorem dX8_put_45 : decode cX8_put 45 = .ok (.getfield 40, 3) := by decide +kernel
theorem dX8_put_48 : decode cX8_put 48 = .ok (.iload_n 1, 1) := by decide +kernel
theorem dX8_put_49 : decode cX8_put 49 = .ok (.dup2, 1) := by decide +kernel
theorem dX8_put_50 : decode cX8_put 50 = .ok (.iaload, 1) := by decide +kernel
theorem dX8_put_51 : decode cX8_put 51 = .ok (.iload_n 2, 1) := by decide +kernel
theorem dX8_put_52 : decode cX8_put 52 = .ok (.isub, 1) := by decide +kernel
theorem dX8_put_53 : decode cX8_put 53 = .ok (.iastore, 1) := by decide +kernel
theorem dX8_put_54 : decode cX8_put 54 = .ok (.aload_n 0, 1) := by decide +kernel
theorem dX8_put_55 : decode cX8_put 55 = .ok (.getfield 34, 3) := by decide +kernel
theorem dX8_put_58 : decode cX8_put 58 = .ok (.iload_n 1, 1) := by decide +kernel
theorem dX8_put_59 : decode cX8_put 59 = .ok (.iaload, 1) := by decide +kernel
theorem dX8_put_60 : decode cX8_put 60 = .ok (.ireturn, 1) := by decide +kernel
theorem dX8_makeRight_0 : decode cX8_makeRight 0 = .ok (.aload_n 0, 1) := by decide +kernel
theorem dX8_makeRight_1 : decode cX8_makeRight 1 = .ok (.getfield 34, 3) := by decide +kernel
theorem dX8_makeRight_4 : decode cX8_makeRight 4 = .ok (.iload_n 1, 1) := by decide +kernel
theorem dX8_makeRight_5 : decode cX8_makeRight 5 = .ok (.iconst 0, 1) := by decide +kernel
theorem dX8_makeRight_6 : decode cX8_makeRight 6 = .ok (.iastore, 1) := by decide +kernel
theorem dX8_makeRight_7 : decode cX8_makeRight 7 = .ok (.aload_n 0, 1) := by decide +kernel
theorem dX8_makeRight_8 : decode cX8_makeRight 8 = .ok (.getfield 40, 3) := by decide +kernel
theorem dX8_makeRight_11 : decode cX8_makeRight 11 = .ok (.iload_n 1, 1) := by decide +kernel
theorem dX8_makeRight_12 : decode cX8_makeRight 12 = .ok (.iconst 0, 1) := by decide +kernel
theorem dX8_makeRight_13 : decode cX8_makeRight 13 = .ok (.iastore, 1) := by decide +kernel
theorem dX8_makeRight_14 : decode cX8_makeRight 14 = .ok (.aload_n 0, 1) := by decide +kernel
theorem dX8_makeRight_15 : decode cX8_makeRight 15 = .ok (.getfield 43, 3) := by decide +kernel
theorem dX8_makeRight_18 : decode cX8_makeRight 18 = .ok (.iload_n 1, 1) := by decide +kernel
theorem dX8_makeRight_19 : decode cX8_makeRight 19 = .ok (.iconst 0, 1) := by decide +kernel
theorem dX8_makeRight_20 : decode cX8_makeRight 20 = .ok (.iastore, 1) := by decide +kernel
theorem dX8_makeRight_21 : decode cX8_makeRight 21 = .ok (.aload_n 0, 1) := by decide +kernel
theorem dX8_makeRight_22 : decode cX8_makeRight 22 = .ok (.getfield 37, 3) := by decide +kernel
theorem dX8_makeRight_25 : decode cX8_makeRight 25 = .ok (.iload_n 1, 1) := by decide +kernel
theorem dX8_makeRight_26 : decode cX8_makeRight 26 = .ok (.iconst 0, 1) := by decide +kernel
theorem dX8_makeRight_27 : decode cX8_makeRight 27 = .ok (.iastore, 1) := by decide +kernel
theorem dX8_makeRight_28 : decode cX8_makeRight 28 = .ok (.return_, 1) := by decide +kernel
set_option maxRecDepth 20000 in
theorem ggX8_right_X8_isDial : GoodIn wsX8_right wsX8_isDial := goodIn_r _ [8, 9, 10, 11, 7, 12, 20, 21, 22, 23, 24, 25, 26, 27, 28, 29, 30, 31, 32, 33, 34, 35, 36, 37, 38, 39, 40, 41, 42, 43, 44, 45, 46, 47, 48, 49, 50, 51, 52, 53, 54, 55, 56, 57, 58, 59, 60, 61, 62, 63, 64, 65, 66, 67] (by decide +kernel) (by decide +kernel)
set_option maxRecDepth 20000 in
theorem gX8_right_X8_isDial : GoodIn wsX8_right (wsV RX8 157 RX8 yX8_isDial wsX8_isDial) := goodIn_app (goodIn_of _ (by decide +kernel)) ggX8_right_X8_isDial
set_option maxRecDepth 20000 in
theorem ggX8_right_X8_makeRight : GoodIn wsX8_right wsX8_makeRight := goodIn_r _ [16, 3, 17, 18, 19, 20, 21, 22, 23, 24, 25, 26, 27, 28, 29, 30, 31, 32, 33, 34, 35, 36, 37, 38, 39, 40, 41, 42, 43, 44, 45, 46, 47, 48, 49, 50, 51, 52, 53, 54, 55, 56, 57, 58, 59, 60, 61, 62, 63, 64, 65, 66, 67] (by decide +kernel) (by decide +kernel)
set_option maxRecDepth 20000 in
theorem gX8_right_X8_makeRight : GoodIn wsX8_right (wsV RX8 162 RX8 yX8_makeRight wsX8_makeRight) := goodIn_app (goodIn_of _ (by decide +kernel)) ggX8_right_X8_makeRight
theorem dX8_right_0 : decode cX8_right 0 = .ok (.aload_n 0, 1) := by decide +kernel
theorem dX8_right_1 : decode cX8_right 1 = .ok (.iconst 0, 1) := by decide +kernel
theorem dX8_right_2 : decode cX8_right 2 = .ok (.putfield 95, 3) := by decide +kernel
theorem dX8_right_5 : decode cX8_right 5 = .ok (.aload_n 0, 1) := by decide +kernel
theorem dX8_right_6 : decode cX8_right 6 = .ok (.iload_n 1, 1) := by decide +kernel
theorem dX8_right_7 : decode cX8_right 7 = .ok (.invokevirtual 157, 3) := by decide +kernel
theorem dX8_right_10 : decode cX8_right 10 = .ok (.ifCond .ne 6, 3) := by decide +kernel
theorem dX8_right_13 : decode cX8_right 13 = .ok (.ldc 115, 2) := by decide +kernel
theorem dX8_right_15 : decode cX8_right 15 = .ok (.ireturn, 1) := by decide +kernel
theorem dX8_right_16 : decode cX8_right 16 = .ok (.aload_n 0, 1) := by decide +kernel
theorem dX8_right_17 : decode cX8_right 17 = .ok (.getfield 34, 3) := by decide +kernel
theorem dX8_right_20 : decode cX8_right 20 = .ok (.iload_n 1, 1) := by decide +kernel
theorem dX8_right_21 : decode cX8_right 21 = .ok (.iaload, 1) := by decide +kernel
theorem dX8_right_22 : decode cX8_right 22 = .ok (.istore_n 2, 1) := by decide +kernel
theorem dX8_right_23 : decode cX8_right 23 = .ok (.aload_n 0, 1) := by decide +kernel
theorem dX8_right_24 : decode cX8_right 24 = .ok (.iload_n 1, 1) := by decide +kernel
theorem dX8_right_25 : decode cX8_right 25 = .ok (.invokevirtual 162, 3) := by decide +kernel
theorem dX8_right_28 : decode cX8_right 28 = .ok (.iload_n 2, 1) := by decide +kernel
theorem dX8_right_29 : decode cX8_right 29 = .ok (.ireturn, 1) := by decide +kernel
theorem dX8_size_0 : decode cX8_size 0 = .ok (.iload_n 0, 1) := by decide +kernel
theorem dX8_size_1 : decode cX8_size 1 = .ok (.ifCond .ge 8, 3) := by decide +kernel
theorem dX8_size_4 : decode cX8_size 4 = .ok (.iload_n 0, 1) := by decide +kernel
theorem dX8_size_5 : decode cX8_size 5 = .ok (.ineg, 1) := by decide +kernel
theorem dX8_size_6 : decode cX8_size 6 = .ok (.goto 4, 3) := by decide +kernel
theorem dX8_size_9 : decode cX8_size 9 = .ok (.iload_n 0, 1) := by decide +kernel
theorem dX8_size_10 : decode cX8_size 10 = .ok (.ireturn, 1) := by decide +kernel
set_option maxRecDepth 20000 in
theorem ggX8_round_X8_in : GoodIn wsX8_round wsX8_in := goodIn_r _ [10] (by decide +kernel) (by decide +kernel)
set_option maxRecDepth 20000 in
theorem gX8_round_X8_in : GoodIn wsX8_round (va_wsS RX8 102 yX8_in wsX8_in) := goodIn_app (goodIn_of _ (by decide +kernel)) ggX8_round_X8_in
set_option maxRecDepth 20000 in
theorem ggX8_round_X8_size : GoodIn wsX8_round wsX8_size := goodIn_r _ [13] (by decide +kernel) (by decide +kernel)
set_option maxRecDepth 20000 in
theorem gX8_round_X8_size : GoodIn wsX8_round (va_wsS RX8 168 yX8_size wsX8_size) := goodIn_app (goodIn_of _ (by decide +kernel)) ggX8_round_X8_size
set_option maxRecDepth 20000 in
theorem ggX8_round_X8_makeRight : GoodIn wsX8_round wsX8_makeRight := goodIn_r _ [17, 6, 18, 19, 20, 21, 22, 23, 24, 25, 26, 27, 28, 29, 30, 31, 32, 33, 34, 35, 36, 37, 38, 39, 40, 41, 42, 43, 44, 45, 46, 47, 48, 49, 50, 51, 52, 53, 54, 55, 56, 57, 58, 59, 60, 61, 62, 63, 64, 65, 66, 67, 68] (by decide +kernel) (by decide +kernel)
set_option maxRecDepth 20000 in
theorem gX8_round_X8_makeRight : GoodIn wsX8_round (wsV RX8 162 RX8 yX8_makeRight wsX8_makeRight) := goodIn_app (goodIn_of _ (by decide +kernel)) ggX8_round_X8_makeRight
theorem dX8_round_0 : decode cX8_round 0 = .ok (.aload_n 0, 1) := by decide +kernel
theorem dX8_round_1 : decode cX8_round 1 = .ok (.iconst 0, 1) := by decide +kernel
theorem dX8_round_2 : decode cX8_round 2 = .ok (.putfield 95, 3) := by decide +kernel
theorem dX8_round_5 : decode cX8_round 5 = .ok (.iload_n 1, 1) := by decide +kernel
theorem dX8_round_6 : decode cX8_round 6 = .ok (.i2l, 1) := by decide +kernel
theorem dX8_round_7 : decode cX8_round 7 = .ok (.lconst 1, 1) := by decide +kernel
theorem dX8_round_8 : decode cX8_round 8 = .ok (.ldc2_w 166, 3) := by decide +kernel
theorem dX8_round_11 : decode cX8_round 11 = .ok (.invokestatic 102, 3) := by decide +kernel
theorem dX8_round_14 : decode cX8_round 14 = .ok (.ifCond .ne 6, 3) := by decide +kernel
theorem dX8_round_17 : decode cX8_round 17 = .ok (.ldc 115, 2) := by decide +kernel
theorem dX8_round_19 : decode cX8_round 19 = .ok (.ireturn, 1) := by decide +kernel
theorem dX8_round_20 : decode cX8_round 20 = .ok (.iconst 0, 1) := by decide +kernel
theorem dX8_round_21 : decode cX8_round 21 = .ok (.istore_n 2, 1) := by decide +kernel
theorem dX8_round_22 : decode cX8_round 22 = .ok (.iconst 1, 1) := by decide +kernel
theorem dX8_round_23 : decode cX8_round 23 = .ok (.istore_n 3, 1) := by decide +kernel
theorem dX8_round_24 : decode cX8_round 24 = .ok (.iload_n 3, 1) := by decide +kernel
theorem dX8_round_25 : decode cX8_round 25 = .ok (.ifCond .eq 103, 3) := by decide +kernel
theorem dX8_round_28 : decode cX8_round 28 = .ok (.iload_n 2, 1) := by decide +kernel
theorem dX8_round_29 : decode cX8_round 29 = .ok (.iload_n 1, 1) := by decide +kernel
theorem dX8_round_30 : decode cX8_round 30 = .ok (.if_icmp .ge 98, 3) := by decide +kernel
theorem dX8_round_33 : decode cX8_round 33 = .ok (.ldc 106, 2) := by decide +kernel
theorem dX8_round_35 : decode cX8_round 35 = .ok (.istore 4, 2) := by decide +kernel
theorem dX8_round_37 : decode cX8_round 37 = .ok (.iconst 0, 1) := by decide +kernel
theorem dX8_round_38 : decode cX8_round 38 = .ok (.istore 5, 2) := by decide +kernel
theorem dX8_round_40 : decode cX8_round 40 = .ok (.iload 5, 2) := by decide +kernel
theorem dX8_round_42 : decode cX8_round 42 = .ok (.aload_n 0, 1) := by decide +kernel
theorem dX8_round_43 : decode cX8_round 43 = .ok (.getfield 128, 3) := by decide +kernel
theorem dX8_round_46 : decode cX8_round 46 = .ok (.if_icmp .ge 53, 3) := by decide +kernel
theorem dX8_round_49 : decode cX8_round 49 = .ok (.aload_n 0, 1) := by decide +kernel
theorem dX8_round_50 : decode cX8_round 50 = .ok (.getfield 34, 3) := by decide +kernel
theorem dX8_round_53 : decode cX8_round 53 = .ok (.iload 5, 2) := by decide +kernel
theorem dX8_round_55 : decode cX8_round 55 = .ok (.iaload, 1) := by decide +kernel
theorem dX8_round_56 : decode cX8_round 56 = .ok (.ifCond .eq 37, 3) := by decide +kernel
theorem dX8_round_59 : decode cX8_round 59 = .ok (.iload 4, 2) := by decide +kernel
theorem dX8_round_61 : decode cX8_round 61 = .ok (.ldc 106, 2) := by decide +kernel
theorem dX8_round_63 : decode cX8_round 63 = .ok (.if_icmp .eq 26, 3) := by decide +kernel
theorem dX8_round_66 : decode cX8_round 66 = .ok (.aload_n 0, 1) := by decide +kernel
theorem dX8_round_67 : decode cX8_round 67 = .ok (.getfield 34, 3) := by decide +kernel
theorem dX8_round_70 : decode cX8_round 70 = .ok (.iload 5, 2) := by decide +kernel
theorem dX8_round_72 : decode cX8_round 72 = .ok (.iaload, 1) := by decide +kernel
theorem dX8_round_73 : decode cX8_round 73 = .ok (.invokestatic 168, 3) := by decide +kernel
theorem dX8_round_76 : decode cX8_round 76 = .ok (.aload_n 0, 1) := by decide +kernel
theorem dX8_round_77 : decode cX8_round 77 = .ok (.getfield 34, 3) := by decide +kernel
theorem dX8_round_80 : decode cX8_round 80 = .ok (.iload 4, 2) := by decide +kernel
theorem dX8_round_82 : decode cX8_round 82 = .ok (.iaload, 1) := by decide +kernel
theorem dX8_round_83 : decode cX8_round 83 = .ok (.invokestatic 168, 3) := by decide +kernel
theorem dX8_round_86 : decode cX8_round 86 = .ok (.if_icmp .le 7, 3) := by decide +kernel
theorem dX8_round_89 : decode cX8_round 89 = .ok (.iload 5, 2) := by decide +kernel
theorem dX8_round_91 : decode cX8_round 91 = .ok (.istore 4, 2) := by decide +kernel
theorem dX8_round_93 : decode cX8_round 93 = .ok (.iinc 5 1, 3) := by decide +kernel
theorem dX8_round_96 : decode cX8_round 96 = .ok (.goto (-56), 3) := by decide +kernel
theorem dX8_round_99 : decode cX8_round 99 = .ok (.iload 4, 2) := by decide +kernel
theorem dX8_round_101 : decode cX8_round 101 = .ok (.ldc 106, 2) := by decide +kernel
theorem dX8_round_103 : decode cX8_round 103 = .ok (.if_icmp .eq 7, 3) := by decide +kernel
theorem dX8_round_106 : decode cX8_round 106 = .ok (.iconst 1, 1) := by decide +kernel
theorem dX8_round_107 : decode cX8_round 107 = .ok (.goto 4, 3) := by decide +kernel
theorem dX8_round_110 : decode cX8_round 110 = .ok (.iconst 0, 1) := by decide +kernel
theorem dX8_round_111 : decode cX8_round 111 = .ok (.istore_n 3, 1) := by decide +kernel
theorem dX8_round_112 : decode cX8_round 112 = .ok (.iload_n 3, 1) := by decide +kernel
theorem dX8_round_113 : decode cX8_round 113 = .ok (.ifCond .eq 12, 3) := by decide +kernel
theorem dX8_round_116 : decode cX8_round 116 = .ok (.aload_n 0, 1) := by decide +kernel
theorem dX8_round_117 : decode cX8_round 117 = .ok (.iload 4, 2) := by decide +kernel
theorem dX8_round_119 : decode cX8_round 119 = .ok (.invokevirtual 162, 3) := by decide +kernel
theorem dX8_round_122 : decode cX8_round 122 = .ok (.iinc 2 1, 3) := by decide +kernel
theorem dX8_round_125 : decode cX8_round 125 = .ok (.goto (-101), 3) := by decide +kernel
theorem dX8_round_128 : decode cX8_round 128 = .ok (.iload_n 2, 1) := by decide +kernel
theorem dX8_round_129 : decode cX8_round 129 = .ok (.ireturn, 1) := by decide +kernel
set_option maxRecDepth 20000 in
theorem ggX8_ahead_X8_isDial : GoodIn wsX8_ahead wsX8_isDial := goodIn_r _ [9, 10, 11, 12, 8, 13, 27, 28, 29, 30, 31, 32, 33, 34, 35, 36, 37, 38, 39, 40, 41, 42, 43, 44, 45, 46, 47, 48, 49, 50, 51, 52, 53, 54, 55, 56, 57, 58, 59, 60, 61, 62, 63, 64, 65, 66, 67, 68, 69, 70, 71, 72, 73, 74] (by decide +kernel) (by decide +kernel)
set_option maxRecDepth 20000 in
theorem gX8_ahead_X8_isDial : GoodIn wsX8_ahead (wsV RX8 157 RX8 yX8_isDial wsX8_isDial) := goodIn_app (goodIn_of _ (by decide +kernel)) ggX8_ahead_X8_isDial
set_option maxRecDepth 20000 in
theorem ggX8_ahead_X8_kindOf : GoodIn wsX8_ahead wsX8_kindOf := goodIn_r _ [17, 18, 19, 27, 28, 29, 30, 31, 32, 33, 34, 35, 36, 37, 38, 39, 40, 41, 42, 43, 44, 45, 46, 47, 48, 49, 50, 51, 52, 53, 54, 55, 56, 57, 58, 59, 60, 61, 62, 63, 64, 65, 66, 67, 68, 69, 70, 71, 72, 73, 74] (by decide +kernel) (by decide +kernel)
set_option maxRecDepth 20000 in
theorem gX8_ahead_X8_kindOf : GoodIn wsX8_ahead (wsV RX8 171 RX8 yX8_kindOf wsX8_kindOf) := goodIn_app (goodIn_of _ (by decide +kernel)) ggX8_ahead_X8_kindOf
set_option maxRecDepth 20000 in
theorem ggX8_ahead_X8_lagOf : GoodIn wsX8_ahead wsX8_lagOf := goodIn_r _ [23, 24, 25, 26, 27, 28, 29, 30, 31, 32, 33, 34, 35, 36, 37, 38, 39, 40, 41, 42, 43, 44, 45, 46, 47, 48, 49, 50, 51, 52, 53, 54, 55, 56, 57, 58, 59, 60, 61, 62, 63, 64, 65, 66, 67, 68, 69, 70, 71, 72, 73, 74] (by decide +kernel) (by decide +kernel)
set_option maxRecDepth 20000 in
theorem gX8_ahead_X8_lagOf : GoodIn wsX8_ahead (wsV RX8 124 RX8 yX8_lagOf wsX8_lagOf) := goodIn_app (goodIn_of _ (by decide +kernel)) ggX8_ahead_X8_lagOf
theorem dX8_ahead_0 : decode cX8_ahead 0 = .ok (.aload_n 0, 1) := by decide +kernel
theorem dX8_ahead_1 : decode cX8_ahead 1 = .ok (.iconst 0, 1) := by decide +kernel
theorem dX8_ahead_2 : decode cX8_ahead 2 = .ok (.putfield 95, 3) := by decide +kernel
theorem dX8_ahead_5 : decode cX8_ahead 5 = .ok (.aload_n 0, 1) := by decide +kernel
theorem dX8_ahead_6 : decode cX8_ahead 6 = .ok (.iload_n 1, 1) := by decide +kernel
theorem dX8_ahead_7 : decode cX8_ahead 7 = .ok (.invokevirtual 157, 3) := by decide +kernel
theorem dX8_ahead_10 : decode cX8_ahead 10 = .ok (.ifCond .ne 6, 3) := by decide +kernel
theorem dX8_ahead_13 : decode cX8_ahead 13 = .ok (.ldc 115, 2) := by decide +kernel
theorem dX8_ahead_15 : decode cX8_ahead 15 = .ok (.ireturn, 1) := by decide +kernel
theorem dX8_ahead_16 : decode cX8_ahead 16 = .ok (.aload_n 0, 1) := by decide +kernel
theorem dX8_ahead_17 : decode cX8_ahead 17 = .ok (.iload_n 1, 1) := by decide +kernel
theorem dX8_ahead_18 : decode cX8_ahead 18 = .ok (.invokevirtual 171, 3) := by decide +kernel
theorem dX8_ahead_21 : decode cX8_ahead 21 = .ok (.istore_n 2, 1) := by decide +kernel
theorem dX8_ahead_22 : decode cX8_ahead 22 = .ok (.iload_n 2, 1) := by decide +kernel
theorem dX8_ahead_23 : decode cX8_ahead 23 = .ok (.iconst 1, 1) := by decide +kernel
theorem dX8_ahead_24 : decode cX8_ahead 24 = .ok (.if_icmp .eq 13, 3) := by decide +kernel
theorem dX8_ahead_27 : decode cX8_ahead 27 = .ok (.iload_n 2, 1) := by decide +kernel
theorem dX8_ahead_28 : decode cX8_ahead 28 = .ok (.iconst 2, 1) := by decide +kernel
theorem dX8_ahead_29 : decode cX8_ahead 29 = .ok (.if_icmp .eq 8, 3) := by decide +kernel
theorem dX8_ahead_32 : decode cX8_ahead 32 = .ok (.ldc 174, 2) := by decide +kernel
theorem dX8_ahead_34 : decode cX8_ahead 34 = .ok (.goto 22, 3) := by decide +kernel
theorem dX8_ahead_37 : decode cX8_ahead 37 = .ok (.aload_n 0, 1) := by decide +kernel
theorem dX8_ahead_38 : decode cX8_ahead 38 = .ok (.aload_n 0, 1) := by decide +kernel
theorem dX8_ahead_39 : decode cX8_ahead 39 = .ok (.getfield 25, 3) := by decide +kernel
theorem dX8_ahead_42 : decode cX8_ahead 42 = .ok (.iload_n 1, 1) := by decide +kernel
theorem dX8_ahead_43 : decode cX8_ahead 43 = .ok (.iaload, 1) := by decide +kernel
theorem dX8_ahead_44 : decode cX8_ahead 44 = .ok (.invokevirtual 124, 3) := by decide +kernel
theorem dX8_ahead_47 : decode cX8_ahead 47 = .ok (.bipush 9, 2) := by decide +kernel
theorem dX8_ahead_49 : decode cX8_ahead 49 = .ok (.iadd, 1) := by decide +kernel
theorem dX8_ahead_50 : decode cX8_ahead 50 = .ok (.bipush 10, 2) := by decide +kernel
theorem dX8_ahead_52 : decode cX8_ahead 52 = .ok (.idiv, 1) := by decide +kernel
theorem dX8_ahead_53 : decode cX8_ahead 53 = .ok (.bipush 10, 2) := by decide +kernel
theorem dX8_ahead_55 : decode cX8_ahead 55 = .ok (.imul, 1) := by decide +kernel
theorem dX8_ahead_56 : decode cX8_ahead 56 = .ok (.ireturn, 1) := by decide +kernel
set_option maxRecDepth 20000 in
theorem ggX8_mark_X8_isDial : GoodIn wsX8_mark wsX8_isDial := goodIn_r _ [9, 4, 10, 11, 8, 12, 13, 14, 15, 16, 17, 18, 19, 20, 21, 22, 23, 24, 25, 26, 27, 28, 29, 30, 31, 32, 33, 34, 35, 36, 37, 38, 39, 40, 41, 42, 43, 44, 45, 46, 47, 48, 49, 50, 51, 52, 53, 54, 55, 56, 57, 58, 59, 60] (by decide +kernel) (by decide +kernel)
set_option maxRecDepth 20000 in
theorem gX8_mark_X8_isDial : GoodIn wsX8_mark (wsV RX8 157 RX8 yX8_isDial wsX8_isDial) := goodIn_app (goodIn_of _ (by decide +kernel)) ggX8_mark_X8_isDial
set_option maxRecDepth 20000 in
theorem ggX8_mark_X8_in : GoodIn wsX8_mark wsX8_in := goodIn_r _ [12] (by decide +kernel) (by decide +kernel)
set_option maxRecDepth 20000 in
theorem gX8_mark_X8_in : GoodIn wsX8_mark (va_wsS RX8 102 yX8_in wsX8_in) := goodIn_app (goodIn_of _ (by decide +kernel)) ggX8_mark_X8_in
theorem dX8_mark_0 : decode cX8_mark 0 = .ok (.aload_n 0, 1) := by decide +kernel
theorem dX8_mark_1 : decode cX8_mark 1 = .ok (.iconst 0, 1) := by decide +kernel
theorem dX8_mark_2 : decode cX8_mark 2 = .ok (.putfield 95, 3) := by decide +kernel
theorem dX8_mark_5 : decode cX8_mark 5 = .ok (.aload_n 0, 1) := by decide +kernel
theorem dX8_mark_6 : decode cX8_mark 6 = .ok (.iload_n 1, 1) := by decide +kernel
theorem dX8_mark_7 : decode cX8_mark 7 = .ok (.invokevirtual 157, 3) := by decide +kernel
theorem dX8_mark_10 : decode cX8_mark 10 = .ok (.ifCond .eq 13, 3) := by decide +kernel
theorem dX8_mark_13 : decode cX8_mark 13 = .ok (.iload_n 2, 1) := by decide +kernel
theorem dX8_mark_14 : decode cX8_mark 14 = .ok (.i2l, 1) := by decide +kernel
theorem dX8_mark_15 : decode cX8_mark 15 = .ok (.lconst 0, 1) := by decide +kernel
theorem dX8_mark_16 : decode cX8_mark 16 = .ok (.lconst 1, 1) := by decide +kernel
theorem dX8_mark_17 : decode cX8_mark 17 = .ok (.invokestatic 102, 3) := by decide +kernel
theorem dX8_mark_20 : decode cX8_mark 20 = .ok (.ifCond .ne 6, 3) := by decide +kernel
theorem dX8_mark_23 : decode cX8_mark 23 = .ok (.ldc 115, 2) := by decide +kernel
theorem dX8_mark_25 : decode cX8_mark 25 = .ok (.ireturn, 1) := by decide +kernel
theorem dX8_mark_26 : decode cX8_mark 26 = .ok (.aload_n 0, 1) := by decide +kernel
theorem dX8_mark_27 : decode cX8_mark 27 = .ok (.getfield 50, 3) := by decide +kernel
theorem dX8_mark_30 : decode cX8_mark 30 = .ok (.iload_n 1, 1) := by decide +kernel
theorem dX8_mark_31 : decode cX8_mark 31 = .ok (.iload_n 2, 1) := by decide +kernel
theorem dX8_mark_32 : decode cX8_mark 32 = .ok (.iconst 1, 1) := by decide +kernel
theorem dX8_mark_33 : decode cX8_mark 33 = .ok (.if_icmp .ne 7, 3) := by decide +kernel
theorem dX8_mark_36 : decode cX8_mark 36 = .ok (.iconst 1, 1) := by decide +kernel
theorem dX8_mark_37 : decode cX8_mark 37 = .ok (.goto 4, 3) := by decide +kernel
theorem dX8_mark_40 : decode cX8_mark 40 = .ok (.iconst 0, 1) := by decide +kernel
theorem dX8_mark_41 : decode cX8_mark 41 = .ok (.bastore, 1) := by decide +kernel
theorem dX8_mark_42 : decode cX8_mark 42 = .ok (.iconst 0, 1) := by decide +kernel
theorem dX8_mark_43 : decode cX8_mark 43 = .ok (.istore_n 3, 1) := by decide +kernel
theorem dX8_mark_44 : decode cX8_mark 44 = .ok (.iconst 0, 1) := by decide +kernel
theorem dX8_mark_45 : decode cX8_mark 45 = .ok (.istore 4, 2) := by decide +kernel
theorem dX8_mark_47 : decode cX8_mark 47 = .ok (.iload 4, 2) := by decide +kernel
theorem dX8_mark_49 : decode cX8_mark 49 = .ok (.aload_n 0, 1) := by decide +kernel
theorem dX8_mark_50 : decode cX8_mark 50 = .ok (.getfield 128, 3) := by decide +kernel
theorem dX8_mark_53 : decode cX8_mark 53 = .ok (.if_icmp .ge 27, 3) := by decide +kernel
theorem dX8_mark_56 : decode cX8_mark 56 = .ok (.iload_n 3, 1) := by decide +kernel
theorem dX8_mark_57 : decode cX8_mark 57 = .ok (.aload_n 0, 1) := by decide +kernel
theorem dX8_mark_58 : decode cX8_mark 58 = .ok (.getfield 50, 3) := by decide +kernel
theorem dX8_mark_61 : decode cX8_mark 61 = .ok (.iload 4, 2) := by decide +kernel
theorem dX8_mark_63 : decode cX8_mark 63 = .ok (.baload, 1) := by decide +kernel
theorem dX8_mark_64 : decode cX8_mark 64 = .ok (.ifCond .eq 7, 3) := by decide +kernel
theorem dX8_mark_67 : decode cX8_mark 67 = .ok (.iconst 1, 1) := by decide +kernel
theorem dX8_mark_68 : decode cX8_mark 68 = .ok (.goto 4, 3) := by decide +kernel
theorem dX8_mark_71 : decode cX8_mark 71 = .ok (.iconst 0, 1) := by decide +kernel
theorem dX8_mark_72 : decode cX8_mark 72 = .ok (.iadd, 1) := by decide +kernel
theorem dX8_mark_73 : decode cX8_mark 73 = .ok (.istore_n 3, 1) := by decide +kernel
theorem dX8_mark_74 : decode cX8_mark 74 = .ok (.iinc 4 1, 3) := by decide +kernel
theorem dX8_mark_77 : decode cX8_mark 77 = .ok (.goto (-30), 3) := by decide +kernel
theorem dX8_mark_80 : decode cX8_mark 80 = .ok (.iload_n 3, 1) := by decide +kernel
theorem dX8_mark_81 : decode cX8_mark 81 = .ok (.ireturn, 1) := by decide +kernel
set_option maxRecDepth 20000 in
theorem ggX8_isExplained_X8_findAirBy : GoodIn wsX8_isExplained wsX8_findAirBy := goodIn_r _ [11, 12, 13, 14, 3, 15, 16, 17, 18, 19, 20, 21, 22, 23, 24, 25, 26, 27, 28, 29, 30, 31, 32, 33, 34, 35, 36, 37, 38, 39, 40, 41, 42, 43, 44, 45, 46, 47, 48, 49, 50, 51, 52, 53, 54, 55, 56, 57, 58, 59, 60, 61, 62, 63] (by decide +kernel) (by decide +kernel)
set_option maxRecDepth 20000 in
theorem gX8_isExplained_X8_findAirBy : GoodIn wsX8_isExplained (wsV RX8 175 RX8 yX8_findAirBy wsX8_findAirBy) := goodIn_app (goodIn_of _ (by decide +kernel)) ggX8_isExplained_X8_findAirBy
theorem dX8_isExplained_0 : decode cX8_isExplained 0 = .ok (.aload_n 0, 1) := by decide +kernel
theorem dX8_isExplained_1 : decode cX8_isExplained 1 = .ok (.iload_n 1, 1) := by decide +kernel
theorem dX8_isExplained_2 : decode cX8_isExplained 2 = .ok (.iload_n 2, 1) := by decide +kernel
theorem dX8_isExplained_3 : decode cX8_isExplained 3 = .ok (.invokevirtual 175, 3) := by decide +kernel
theorem dX8_isExplained_6 : decode cX8_isExplained 6 = .ok (.iconst 1, 1) := by decide +kernel
theorem dX8_isExplained_7 : decode cX8_isExplained 7 = .ok (.istore_n 3, 1) := by decide +kernel
theorem dX8_isExplained_8 : decode cX8_isExplained 8 = .ok (.iconst 0, 1) := by decide +kernel
theorem dX8_isExplained_9 : decode cX8_isExplained 9 = .ok (.istore 4, 2) := by decide +kernel
theorem dX8_isExplained_11 : decode cX8_isExplained 11 = .ok (.iload 4, 2) := by decide +kernel
theorem dX8_isExplained_13 : decode cX8_isExplained 13 = .ok (.aload_n 0, 1) := by decide +kernel
theorem dX8_isExplained_14 : decode cX8_isExplained 14 = .ok (.getfield 128, 3) := by decide +kernel
theorem dX8_isExplained_17 : decode cX8_isExplained 17 = .ok (.if_icmp .ge 66, 3) := by decide +kernel
theorem dX8_isExplained_20 : decode cX8_isExplained 20 = .ok (.iload_n 3, 1) := by decide +kernel
theorem dX8_isExplained_21 : decode cX8_isExplained 21 = .ok (.ifCond .eq 54, 3) := by decide +kernel
theorem dX8_isExplained_24 : decode cX8_isExplained 24 = .ok (.aload_n 0, 1) := by decide +kernel
theorem dX8_isExplained_25 : decode cX8_isExplained 25 = .ok (.getfield 71, 3) := by decide +kernel
theorem dX8_isExplained_28 : decode cX8_isExplained 28 = .ok (.iload 4, 2) := by decide +kernel
theorem dX8_isExplained_30 : decode cX8_isExplained 30 = .ok (.baload, 1) := by decide +kernel
theorem dX8_isExplained_31 : decode cX8_isExplained 31 = .ok (.ifCond .eq 40, 3) := by decide +kernel
theorem dX8_isExplained_34 : decode cX8_isExplained 34 = .ok (.aload_n 0, 1) := by decide +kernel
theorem dX8_isExplained_35 : decode cX8_isExplained 35 = .ok (.getfield 22, 3) := by decide +kernel
theorem dX8_isExplained_38 : decode cX8_isExplained 38 = .ok (.aload_n 0, 1) := by decide +kernel
theorem dX8_isExplained_39 : decode cX8_isExplained 39 = .ok (.getfield 25, 3) := by decide +kernel
theorem dX8_isExplained_42 : decode cX8_isExplained 42 = .ok (.iload 4, 2) := by decide +kernel
theorem dX8_isExplained_44 : decode cX8_isExplained 44 = .ok (.iaload, 1) := by decide +kernel
theorem dX8_isExplained_45 : decode cX8_isExplained 45 = .ok (.iaload, 1) := by decide +kernel
theorem dX8_isExplained_46 : decode cX8_isExplained 46 = .ok (.aload_n 0, 1) := by decide +kernel
theorem dX8_isExplained_47 : decode cX8_isExplained 47 = .ok (.getfield 28, 3) := by decide +kernel
theorem dX8_isExplained_50 : decode cX8_isExplained 50 = .ok (.iload 4, 2) := by decide +kernel
theorem dX8_isExplained_52 : decode cX8_isExplained 52 = .ok (.iaload, 1) := by decide +kernel
theorem dX8_isExplained_53 : decode cX8_isExplained 53 = .ok (.if_icmp .ge 7, 3) := by decide +kernel
theorem dX8_isExplained_56 : decode cX8_isExplained 56 = .ok (.iconst 1, 1) := by decide +kernel
theorem dX8_isExplained_57 : decode cX8_isExplained 57 = .ok (.goto 4, 3) := by decide +kernel
theorem dX8_isExplained_60 : decode cX8_isExplained 60 = .ok (.iconst 0, 1) := by decide +kernel
theorem dX8_isExplained_61 : decode cX8_isExplained 61 = .ok (.aload_n 0, 1) := by decide +kernel
theorem dX8_isExplained_62 : decode cX8_isExplained 62 = .ok (.getfield 50, 3) := by decide +kernel
theorem dX8_isExplained_65 : decode cX8_isExplained 65 = .ok (.iload 4, 2) := by decide +kernel
theorem dX8_isExplained_67 : decode cX8_isExplained 67 = .ok (.baload, 1) := by decide +kernel
theorem dX8_isExplained_68 : decode cX8_isExplained 68 = .ok (.if_icmp .ne 7, 3) := by decide +kernel
theorem dX8_isExplained_71 : decode cX8_isExplained 71 = .ok (.iconst 1, 1) := by decide +kernel
theorem dX8_isExplained_72 : decode cX8_isExplained 72 = .ok (.goto 4, 3) := by decide +kernel
theorem dX8_isExplained_75 : decode cX8_isExplained 75 = .ok (.iconst 0, 1) := by decide +kernel
theorem dX8_isExplained_76 : decode cX8_isExplained 76 = .ok (.istore_n 3, 1) := by decide +kernel
theorem dX8_isExplained_77 : decode cX8_isExplained 77 = .ok (.iinc 4 1, 3) := by decide +kernel
theorem dX8_isExplained_80 : decode cX8_isExplained 80 = .ok (.goto (-69), 3) := by decide +kernel
theorem dX8_isExplained_83 : decode cX8_isExplained 83 = .ok (.iload_n 3, 1) := by decide +kernel
theorem dX8_isExplained_84 : decode cX8_isExplained 84 = .ok (.ireturn, 1) := by decide +kernel
set_option maxRecDepth 20000 in
theorem ggX8_findAll_X8_findAirBy : GoodIn wsX8_findAll wsX8_findAirBy := goodIn_r _ [15, 8, 16, 1, 4, 17, 23, 24, 25, 26, 27, 28, 29, 30, 31, 32, 33, 34, 35, 36, 37, 38, 39, 40, 41, 42, 43, 44, 45, 46, 47, 48, 49, 50, 51, 52, 53, 54, 55, 56, 57, 58, 59, 60, 61, 62, 63, 64, 65, 66, 67, 68, 69, 70] (by decide +kernel) (by decide +kernel)
set_option maxRecDepth 20000 in
theorem gX8_findAll_X8_findAirBy : GoodIn wsX8_findAll (wsV RX8 175 RX8 yX8_findAirBy wsX8_findAirBy) := goodIn_app (goodIn_of _ (by decide +kernel)) ggX8_findAll_X8_findAirBy
set_option maxRecDepth 20000 in
theorem ggX8_findAll_X8_isExplained : GoodIn wsX8_findAll wsX8_isExplained := goodIn_r _ [21, 2, 3, 4, 5, 6, 22, 11, 12, 13, 14, 15, 8, 16, 1, 17, 23, 24, 25, 26, 27, 28, 29, 30, 31, 32, 33, 34, 35, 36, 37, 38, 39, 40, 41, 42, 43, 44, 45, 46, 47, 48, 49, 50, 51, 52, 53, 54, 55, 56, 57, 58, 59, 60, 61, 62, 63, 64, 65, 66, 67, 68, 69, 70] (by decide +kernel) (by decide +kernel)
set_option maxRecDepth 20000 in
theorem gX8_findAll_X8_isExplained : GoodIn wsX8_findAll (wsV RX8 182 RX8 yX8_isExplained wsX8_isExplained) := goodIn_app (goodIn_of _ (by decide +kernel)) ggX8_findAll_X8_isExplained
theorem dX8_findAll_0 : decode cX8_findAll 0 = .ok (.aload_n 0, 1) := by decide +kernel
theorem dX8_findAll_1 : decode cX8_findAll 1 = .ok (.ldc 106, 2) := by decide +kernel
theorem dX8_findAll_3 : decode cX8_findAll 3 = .ok (.iconst 0, 1) := by decide +kernel
theorem dX8_findAll_4 : decode cX8_findAll 4 = .ok (.invokevirtual 175, 3) := by decide +kernel
theorem dX8_findAll_7 : decode cX8_findAll 7 = .ok (.iconst 0, 1) := by decide +kernel
theorem dX8_findAll_8 : decode cX8_findAll 8 = .ok (.istore_n 1, 1) := by decide +kernel
theorem dX8_findAll_9 : decode cX8_findAll 9 = .ok (.iload_n 1, 1) := by decide +kernel
theorem dX8_findAll_10 : decode cX8_findAll 10 = .ok (.aload_n 0, 1) := by decide +kernel
theorem dX8_findAll_11 : decode cX8_findAll 11 = .ok (.getfield 128, 3) := by decide +kernel
theorem dX8_findAll_14 : decode cX8_findAll 14 = .ok (.if_icmp .ge 40, 3) := by decide +kernel
theorem dX8_findAll_17 : decode cX8_findAll 17 = .ok (.aload_n 0, 1) := by decide +kernel
theorem dX8_findAll_18 : decode cX8_findAll 18 = .ok (.getfield 71, 3) := by decide +kernel
theorem dX8_findAll_21 : decode cX8_findAll 21 = .ok (.iload_n 1, 1) := by decide +kernel
theorem dX8_findAll_22 : decode cX8_findAll 22 = .ok (.aload_n 0, 1) := by decide +kernel
theorem dX8_findAll_23 : decode cX8_findAll 23 = .ok (.getfield 22, 3) := by decide +kernel
theorem dX8_findAll_26 : decode cX8_findAll 26 = .ok (.aload_n 0, 1) := by decide +kernel
theorem dX8_findAll_27 : decode cX8_findAll 27 = .ok (.getfield 25, 3) := by decide +kernel
theorem dX8_findAll_30 : decode cX8_findAll 30 = .ok (.iload_n 1, 1) := by decide +kernel
theorem dX8_findAll_31 : decode cX8_findAll 31 = .ok (.iaload, 1) := by decide +kernel
theorem dX8_findAll_32 : decode cX8_findAll 32 = .ok (.iaload, 1) := by decide +kernel
theorem dX8_findAll_33 : decode cX8_findAll 33 = .ok (.aload_n 0, 1) := by decide +kernel
theorem dX8_findAll_34 : decode cX8_findAll 34 = .ok (.getfield 28, 3) := by decide +kernel
theorem dX8_findAll_37 : decode cX8_findAll 37 = .ok (.iload_n 1, 1) := by decide +kernel
theorem dX8_findAll_38 : decode cX8_findAll 38 = .ok (.iaload, 1) := by decide +kernel
theorem dX8_findAll_39 : decode cX8_findAll 39 = .ok (.if_icmp .lt 7, 3) := by decide +kernel
theorem dX8_findAll_42 : decode cX8_findAll 42 = .ok (.iconst 1, 1) := by decide +kernel
theorem dX8_findAll_43 : decode cX8_findAll 43 = .ok (.goto 4, 3) := by decide +kernel
theorem dX8_findAll_46 : decode cX8_findAll 46 = .ok (.iconst 0, 1) := by decide +kernel
theorem dX8_findAll_47 : decode cX8_findAll 47 = .ok (.bastore, 1) := by decide +kernel
theorem dX8_findAll_48 : decode cX8_findAll 48 = .ok (.iinc 1 1, 3) := by decide +kernel
theorem dX8_findAll_51 : decode cX8_findAll 51 = .ok (.goto (-42), 3) := by decide +kernel
theorem dX8_findAll_54 : decode cX8_findAll 54 = .ok (.aload_n 0, 1) := by decide +kernel
theorem dX8_findAll_55 : decode cX8_findAll 55 = .ok (.iconst 0, 1) := by decide +kernel
theorem dX8_findAll_56 : decode cX8_findAll 56 = .ok (.putfield 179, 3) := by decide +kernel
theorem dX8_findAll_59 : decode cX8_findAll 59 = .ok (.iconst 0, 1) := by decide +kernel
theorem dX8_findAll_60 : decode cX8_findAll 60 = .ok (.istore_n 1, 1) := by decide +kernel
theorem dX8_findAll_61 : decode cX8_findAll 61 = .ok (.iload_n 1, 1) := by decide +kernel
theorem dX8_findAll_62 : decode cX8_findAll 62 = .ok (.aload_n 0, 1) := by decide +kernel
theorem dX8_findAll_63 : decode cX8_findAll 63 = .ok (.getfield 99, 3) := by decide +kernel
theorem dX8_findAll_66 : decode cX8_findAll 66 = .ok (.if_icmp .ge 68, 3) := by decide +kernel
theorem dX8_findAll_69 : decode cX8_findAll 69 = .ok (.iconst 1, 1) := by decide +kernel
theorem dX8_findAll_70 : decode cX8_findAll 70 = .ok (.istore_n 2, 1) := by decide +kernel
theorem dX8_findAll_71 : decode cX8_findAll 71 = .ok (.iload_n 2, 1) := by decide +kernel
theorem dX8_findAll_72 : decode cX8_findAll 72 = .ok (.bipush 60, 2) := by decide +kernel
theorem dX8_findAll_74 : decode cX8_findAll 74 = .ok (.if_icmp .gt 18, 3) := by decide +kernel
theorem dX8_findAll_77 : decode cX8_findAll 77 = .ok (.aload_n 0, 1) := by decide +kernel
theorem dX8_findAll_78 : decode cX8_findAll 78 = .ok (.iload_n 1, 1) := by decide +kernel
theorem dX8_findAll_79 : decode cX8_findAll 79 = .ok (.iload_n 2, 1) := by decide +kernel
theorem dX8_findAll_80 : decode cX8_findAll 80 = .ok (.invokevirtual 182, 3) := by decide +kernel
theorem dX8_findAll_83 : decode cX8_findAll 83 = .ok (.ifCond .ne 9, 3) := by decide +kernel
theorem dX8_findAll_86 : decode cX8_findAll 86 = .ok (.iinc 2 1, 3) := by decide +kernel
theorem dX8_findAll_89 : decode cX8_findAll 89 = .ok (.goto (-18), 3) := by decide +kernel
theorem dX8_findAll_92 : decode cX8_findAll 92 = .ok (.iload_n 2, 1) := by decide +kernel
theorem dX8_findAll_93 : decode cX8_findAll 93 = .ok (.bipush 60, 2) := by decide +kernel
theorem dX8_findAll_95 : decode cX8_findAll 95 = .ok (.if_icmp .gt 33, 3) := by decide +kernel
theorem dX8_findAll_98 : decode cX8_findAll 98 = .ok (.aload_n 0, 1) := by decide +kernel
theorem dX8_findAll_99 : decode cX8_findAll 99 = .ok (.getfield 65, 3) := by decide +kernel
theorem dX8_findAll_102 : decode cX8_findAll 102 = .ok (.aload_n 0, 1) := by decide +kernel
theorem dX8_findAll_103 : decode cX8_findAll 103 = .ok (.getfield 179, 3) := by decide +kernel
theorem dX8_findAll_106 : decode cX8_findAll 106 = .ok (.iload_n 1, 1) := by decide +kernel
theorem dX8_findAll_107 : decode cX8_findAll 107 = .ok (.iastore, 1) := by decide +kernel
theorem dX8_findAll_108 : decode cX8_findAll 108 = .ok (.aload_n 0, 1) := by decide +kernel
theorem dX8_findAll_109 : decode cX8_findAll 109 = .ok (.getfield 68, 3) := by decide +kernel
theorem dX8_findAll_112 : decode cX8_findAll 112 = .ok (.aload_n 0, 1) := by decide +kernel
theorem dX8_findAll_113 : decode cX8_findAll 113 = .ok (.getfield 179, 3) := by decide +kernel
theorem dX8_findAll_116 : decode cX8_findAll 116 = .ok (.iload_n 2, 1) := by decide +kernel
theorem dX8_findAll_117 : decode cX8_findAll 117 = .ok (.iastore, 1) := by decide +kernel
theorem dX8_findAll_118 : decode cX8_findAll 118 = .ok (.aload_n 0, 1) := by decide +kernel
theorem dX8_findAll_119 : decode cX8_findAll 119 = .ok (.dup, 1) := by decide +kernel
theorem dX8_findAll_120 : decode cX8_findAll 120 = .ok (.getfield 179, 3) := by decide +kernel
theorem dX8_findAll_123 : decode cX8_findAll 123 = .ok (.iconst 1, 1) := by decide +kernel
theorem dX8_findAll_124 : decode cX8_findAll 124 = .ok (.iadd, 1) := by decide +kernel
theorem dX8_findAll_125 : decode cX8_findAll 125 = .ok (.putfield 179, 3) := by decide +kernel
theorem dX8_findAll_128 : decode cX8_findAll 128 = .ok (.iinc 1 1, 3) := by decide +kernel
theorem dX8_findAll_131 : decode cX8_findAll 131 = .ok (.goto (-70), 3) := by decide +kernel
theorem dX8_findAll_134 : decode cX8_findAll 134 = .ok (.return_, 1) := by decide +kernel
set_option maxRecDepth 20000 in
theorem ggX8_explains_X8_in : GoodIn wsX8_explains wsX8_in := goodIn_r _ [10] (by decide +kernel) (by decide +kernel)
set_option maxRecDepth 20000 in
theorem gX8_explains_X8_in : GoodIn wsX8_explains (va_wsS RX8 102 yX8_in wsX8_in) := goodIn_app (goodIn_of _ (by decide +kernel)) ggX8_explains_X8_in
set_option maxRecDepth 20000 in
theorem ggX8_explains_X8_findAll : GoodIn wsX8_explains wsX8_findAll := goodIn_r _ [14, 4, 15, 16, 17, 18, 19, 3, 20, 5, 6, 21, 22, 23, 9, 24, 25, 26, 27, 28, 29, 30, 31, 32, 33, 34, 35, 36, 37, 38, 39, 40, 41, 42, 43, 44, 45, 46, 47, 48, 49, 50, 51, 52, 53, 54, 55, 56, 57, 58, 59, 60, 61, 62, 63, 64, 65, 66, 67, 68, 69, 70, 71, 72, 73, 74, 75, 76, 77, 78, 79] (by decide +kernel) (by decide +kernel)
set_option maxRecDepth 20000 in
theorem gX8_explains_X8_findAll : GoodIn wsX8_explains (wsV RX8 186 RX8 yX8_findAll wsX8_findAll) := goodIn_app (goodIn_of _ (by decide +kernel)) ggX8_explains_X8_findAll
theorem dX8_explains_0 : decode cX8_explains 0 = .ok (.aload_n 0, 1) := by decide +kernel
theorem dX8_explains_1 : decode cX8_explains 1 = .ok (.iconst 0, 1) := by decide +kernel
theorem dX8_explains_2 : decode cX8_explains 2 = .ok (.putfield 95, 3) := by decide +kernel
theorem dX8_explains_5 : decode cX8_explains 5 = .ok (.iload_n 2, 1) := by decide +kernel
theorem dX8_explains_6 : decode cX8_explains 6 = .ok (.i2l, 1) := by decide +kernel
theorem dX8_explains_7 : decode cX8_explains 7 = .ok (.lconst 0, 1) := by decide +kernel
theorem dX8_explains_8 : decode cX8_explains 8 = .ok (.lconst 1, 1) := by decide +kernel
theorem dX8_explains_9 : decode cX8_explains 9 = .ok (.invokestatic 102, 3) := by decide +kernel
theorem dX8_explains_12 : decode cX8_explains 12 = .ok (.ifCond .ne 6, 3) := by decide +kernel
theorem dX8_explains_15 : decode cX8_explains 15 = .ok (.ldc 115, 2) := by decide +kernel
theorem dX8_explains_17 : decode cX8_explains 17 = .ok (.ireturn, 1) := by decide +kernel
theorem dX8_explains_18 : decode cX8_explains 18 = .ok (.aload_n 0, 1) := by decide +kernel
theorem dX8_explains_19 : decode cX8_explains 19 = .ok (.invokevirtual 186, 3) := by decide +kernel
theorem dX8_explains_22 : decode cX8_explains 22 = .ok (.iload_n 1, 1) := by decide +kernel
theorem dX8_explains_23 : decode cX8_explains 23 = .ok (.i2l, 1) := by decide +kernel
theorem dX8_explains_24 : decode cX8_explains 24 = .ok (.lconst 0, 1) := by decide +kernel
theorem dX8_explains_25 : decode cX8_explains 25 = .ok (.aload_n 0, 1) := by decide +kernel
theorem dX8_explains_26 : decode cX8_explains 26 = .ok (.getfield 179, 3) := by decide +kernel
theorem dX8_explains_29 : decode cX8_explains 29 = .ok (.iconst 1, 1) := by decide +kernel
theorem dX8_explains_30 : decode cX8_explains 30 = .ok (.isub, 1) := by decide +kernel
theorem dX8_explains_31 : decode cX8_explains 31 = .ok (.i2l, 1) := by decide +kernel
theorem dX8_explains_32 : decode cX8_explains 32 = .ok (.invokestatic 102, 3) := by decide +kernel
theorem dX8_explains_35 : decode cX8_explains 35 = .ok (.ifCond .ne 8, 3) := by decide +kernel
theorem dX8_explains_38 : decode cX8_explains 38 = .ok (.ldc 106, 2) := by decide +kernel
theorem dX8_explains_40 : decode cX8_explains 40 = .ok (.goto 22, 3) := by decide +kernel
theorem dX8_explains_43 : decode cX8_explains 43 = .ok (.iload_n 2, 1) := by decide +kernel
theorem dX8_explains_44 : decode cX8_explains 44 = .ok (.ifCond .ne 12, 3) := by decide +kernel
theorem dX8_explains_47 : decode cX8_explains 47 = .ok (.aload_n 0, 1) := by decide +kernel
theorem dX8_explains_48 : decode cX8_explains 48 = .ok (.getfield 65, 3) := by decide +kernel
theorem dX8_explains_51 : decode cX8_explains 51 = .ok (.iload_n 1, 1) := by decide +kernel
theorem dX8_explains_52 : decode cX8_explains 52 = .ok (.iaload, 1) := by decide +kernel
theorem dX8_explains_53 : decode cX8_explains 53 = .ok (.goto 9, 3) := by decide +kernel
theorem dX8_explains_56 : decode cX8_explains 56 = .ok (.aload_n 0, 1) := by decide +kernel
theorem dX8_explains_57 : decode cX8_explains 57 = .ok (.getfield 68, 3) := by decide +kernel
theorem dX8_explains_60 : decode cX8_explains 60 = .ok (.iload_n 1, 1) := by decide +kernel
theorem dX8_explains_61 : decode cX8_explains 61 = .ok (.iaload, 1) := by decide +kernel
theorem dX8_explains_62 : decode cX8_explains 62 = .ok (.ireturn, 1) := by decide +kernel
set_option maxRecDepth 20000 in
theorem ggX8_next_X8_findAll : GoodIn wsX8_next wsX8_findAll := goodIn_r _ [15, 4, 3, 16, 9, 10, 17, 2, 7, 5, 6, 18, 19, 20, 14, 21, 22, 23, 24, 25, 26, 27, 28, 29, 30, 31, 32, 33, 34, 35, 36, 37, 38, 39, 40, 41, 42, 43, 44, 45, 46, 47, 48, 49, 50, 51, 52, 53, 54, 55, 56, 57, 58, 59, 60, 61, 62, 63, 64, 65, 66, 67, 68, 69, 70, 71, 72, 73, 74, 75, 76] (by decide +kernel) (by decide +kernel)
set_option maxRecDepth 20000 in
theorem gX8_next_X8_findAll : GoodIn wsX8_next (wsV RX8 186 RX8 yX8_findAll wsX8_findAll) := goodIn_app (goodIn_of _ (by decide +kernel)) ggX8_next_X8_findAll
set_option maxRecDepth 20000 in
theorem ggX8_next_X8_findAirBy : GoodIn wsX8_next wsX8_findAirBy := goodIn_r _ [21, 7, 22, 4, 9, 23, 29, 30, 31, 32, 33, 34, 35, 36, 37, 38, 39, 40, 41, 42, 43, 44, 45, 46, 47, 48, 49, 50, 51, 52, 53, 54, 55, 56, 57, 58, 59, 60, 61, 62, 63, 64, 65, 66, 67, 68, 69, 70, 71, 72, 73, 74, 75, 76] (by decide +kernel) (by decide +kernel)
set_option maxRecDepth 20000 in
theorem gX8_next_X8_findAirBy : GoodIn wsX8_next (wsV RX8 175 RX8 yX8_findAirBy wsX8_findAirBy) := goodIn_app (goodIn_of _ (by decide +kernel)) ggX8_next_X8_findAirBy
theorem dX8_next_0 : decode cX8_next 0 = .ok (.aload_n 0, 1) := by decide +kernel
theorem dX8_next_1 : decode cX8_next 1 = .ok (.iconst 0, 1) := by decide +kernel
theorem dX8_next_2 : decode cX8_next 2 = .ok (.putfield 95, 3) := by decide +kernel
theorem dX8_next_5 : decode cX8_next 5 = .ok (.aload_n 0, 1) := by decide +kernel
theorem dX8_next_6 : decode cX8_next 6 = .ok (.invokevirtual 186, 3) := by decide +kernel
theorem dX8_next_9 : decode cX8_next 9 = .ok (.aload_n 0, 1) := by decide +kernel
theorem dX8_next_10 : decode cX8_next 10 = .ok (.getfield 179, 3) := by decide +kernel
theorem dX8_next_13 : decode cX8_next 13 = .ok (.iconst 2, 1) := by decide +kernel
theorem dX8_next_14 : decode cX8_next 14 = .ok (.if_icmp .lt 10, 3) := by decide +kernel
theorem dX8_next_17 : decode cX8_next 17 = .ok (.aload_n 0, 1) := by decide +kernel
theorem dX8_next_18 : decode cX8_next 18 = .ok (.getfield 128, 3) := by decide +kernel
theorem dX8_next_21 : decode cX8_next 21 = .ok (.ifCond .ne 6, 3) := by decide +kernel
theorem dX8_next_24 : decode cX8_next 24 = .ok (.ldc 106, 2) := by decide +kernel
theorem dX8_next_26 : decode cX8_next 26 = .ok (.ireturn, 1) := by decide +kernel
theorem dX8_next_27 : decode cX8_next 27 = .ok (.iconst 0, 1) := by decide +kernel
theorem dX8_next_28 : decode cX8_next 28 = .ok (.istore_n 1, 1) := by decide +kernel
theorem dX8_next_29 : decode cX8_next 29 = .ok (.iload_n 1, 1) := by decide +kernel
theorem dX8_next_30 : decode cX8_next 30 = .ok (.aload_n 0, 1) := by decide +kernel
theorem dX8_next_31 : decode cX8_next 31 = .ok (.getfield 179, 3) := by decide +kernel
theorem dX8_next_34 : decode cX8_next 34 = .ok (.if_icmp .ge 58, 3) := by decide +kernel
theorem dX8_next_37 : decode cX8_next 37 = .ok (.aload_n 0, 1) := by decide +kernel
theorem dX8_next_38 : decode cX8_next 38 = .ok (.aload_n 0, 1) := by decide +kernel
theorem dX8_next_39 : decode cX8_next 39 = .ok (.getfield 65, 3) := by decide +kernel
theorem dX8_next_42 : decode cX8_next 42 = .ok (.iload_n 1, 1) := by decide +kernel
theorem dX8_next_43 : decode cX8_next 43 = .ok (.iaload, 1) := by decide +kernel
theorem dX8_next_44 : decode cX8_next 44 = .ok (.aload_n 0, 1) := by decide +kernel
theorem dX8_next_45 : decode cX8_next 45 = .ok (.getfield 68, 3) := by decide +kernel
theorem dX8_next_48 : decode cX8_next 48 = .ok (.iload_n 1, 1) := by decide +kernel
theorem dX8_next_49 : decode cX8_next 49 = .ok (.iaload, 1) := by decide +kernel
theorem dX8_next_50 : decode cX8_next 50 = .ok (.invokevirtual 175, 3) := by decide +kernel
theorem dX8_next_53 : decode cX8_next 53 = .ok (.iconst 0, 1) := by decide +kernel
theorem dX8_next_54 : decode cX8_next 54 = .ok (.istore_n 2, 1) := by decide +kernel
theorem dX8_next_55 : decode cX8_next 55 = .ok (.iload_n 2, 1) := by decide +kernel
theorem dX8_next_56 : decode cX8_next 56 = .ok (.aload_n 0, 1) := by decide +kernel
theorem dX8_next_57 : decode cX8_next 57 = .ok (.getfield 99, 3) := by decide +kernel
theorem dX8_next_60 : decode cX8_next 60 = .ok (.if_icmp .ge 26, 3) := by decide +kernel
theorem dX8_next_63 : decode cX8_next 63 = .ok (.aload_n 0, 1) := by decide +kernel
theorem dX8_next_64 : decode cX8_next 64 = .ok (.getfield 74, 3) := by decide +kernel
theorem dX8_next_67 : decode cX8_next 67 = .ok (.bipush 30, 2) := by decide +kernel
theorem dX8_next_69 : decode cX8_next 69 = .ok (.iload_n 1, 1) := by decide +kernel
theorem dX8_next_70 : decode cX8_next 70 = .ok (.imul, 1) := by decide +kernel
theorem dX8_next_71 : decode cX8_next 71 = .ok (.iload_n 2, 1) := by decide +kernel
theorem dX8_next_72 : decode cX8_next 72 = .ok (.iadd, 1) := by decide +kernel
theorem dX8_next_73 : decode cX8_next 73 = .ok (.aload_n 0, 1) := by decide +kernel
theorem dX8_next_74 : decode cX8_next 74 = .ok (.getfield 22, 3) := by decide +kernel
theorem dX8_next_77 : decode cX8_next 77 = .ok (.iload_n 2, 1) := by decide +kernel
theorem dX8_next_78 : decode cX8_next 78 = .ok (.iaload, 1) := by decide +kernel
theorem dX8_next_79 : decode cX8_next 79 = .ok (.iastore, 1) := by decide +kernel
theorem dX8_next_80 : decode cX8_next 80 = .ok (.iinc 2 1, 3) := by decide +kernel
theorem dX8_next_83 : decode cX8_next 83 = .ok (.goto (-28), 3) := by decide +kernel
theorem dX8_next_86 : decode cX8_next 86 = .ok (.iinc 1 1, 3) := by decide +kernel
theorem dX8_next_89 : decode cX8_next 89 = .ok (.goto (-60), 3) := by decide +kernel
theorem dX8_next_92 : decode cX8_next 92 = .ok (.iconst 0, 1) := by decide +kernel
theorem dX8_next_93 : decode cX8_next 93 = .ok (.istore_n 1, 1) := by decide +kernel
theorem dX8_next_94 : decode cX8_next 94 = .ok (.iconst (-1), 1) := by decide +kernel
theorem dX8_next_95 : decode cX8_next 95 = .ok (.istore_n 2, 1) := by decide +kernel
theorem dX8_next_96 : decode cX8_next 96 = .ok (.iconst 0, 1) := by decide +kernel
theorem dX8_next_97 : decode cX8_next 97 = .ok (.istore_n 3, 1) := by decide +kernel
theorem dX8_next_98 : decode cX8_next 98 = .ok (.iload_n 3, 1) := by decide +kernel
theorem dX8_next_99 : decode cX8_next 99 = .ok (.aload_n 0, 1) := by decide +kernel
theorem dX8_next_100 : decode cX8_next 100 = .ok (.getfield 128, 3) := by decide +kernel
theorem dX8_next_103 : decode cX8_next 103 = .ok (.if_icmp .ge 109, 3) := by decide +kernel
theorem dX8_next_106 : decode cX8_next 106 = .ok (.iconst 0, 1) := by decide +kernel
theorem dX8_next_107 : decode cX8_next 107 = .ok (.istore 4, 2) := by decide +kernel
theorem dX8_next_109 : decode cX8_next 109 = .ok (.iconst 0, 1) := by decide +kernel
theorem dX8_next_110 : decode cX8_next 110 = .ok (.istore 5, 2) := by decide +kernel
theorem dX8_next_112 : decode cX8_next 112 = .ok (.iload 5, 2) := by decide +kernel
theorem dX8_next_114 : decode cX8_next 114 = .ok (.aload_n 0, 1) := by decide +kernel
theorem dX8_next_115 : decode cX8_next 115 = .ok (.getfield 179, 3) := by decide +kernel
theorem dX8_next_118 : decode cX8_next 118 = .ok (.if_icmp .ge 77, 3) := by decide +kernel
theorem dX8_next_121 : decode cX8_next 121 = .ok (.iload 5, 2) := by decide +kernel
theorem dX8_next_123 : decode cX8_next 123 = .ok (.iconst 1, 1) := by decide +kernel
theorem dX8_next_124 : decode cX8_next 124 = .ok (.iadd, 1) := by decide +kernel
theorem dX8_next_125 : decode cX8_next 125 = .ok (.istore 6, 2) := by decide +kernel
theorem dX8_next_127 : decode cX8_next 127 = .ok (.iload 6, 2) := by decide +kernel
theorem dX8_next_129 : decode cX8_next 129 = .ok (.aload_n 0, 1) := by decide +kernel
theorem dX8_next_130 : decode cX8_next 130 = .ok (.getfield 179, 3) := by decide +kernel
theorem dX8_next_133 : decode cX8_next 133 = .ok (.if_icmp .ge 56, 3) := by decide +kernel
theorem dX8_next_136 : decode cX8_next 136 = .ok (.iload 4, 2) := by decide +kernel
theorem dX8_next_138 : decode cX8_next 138 = .ok (.aload_n 0, 1) := by decide +kernel
theorem dX8_next_139 : decode cX8_next 139 = .ok (.getfield 74, 3) := by decide +kernel
theorem dX8_next_142 : decode cX8_next 142 = .ok (.bipush 30, 2) := by decide +kernel
theorem dX8_next_144 : decode cX8_next 144 = .ok (.iload 5, 2) := by decide +kernel
theorem dX8_next_146 : decode cX8_next 146 = .ok (.imul, 1) := by decide +kernel
theorem dX8_next_147 : decode cX8_next 147 = .ok (.aload_n 0, 1) := by decide +kernel
theorem dX8_next_148 : decode cX8_next 148 = .ok (.getfield 25, 3) := by decide +kernel
theorem dX8_next_151 : decode cX8_next 151 = .ok (.iload_n 3, 1) := by decide +kernel
theorem dX8_next_152 : decode cX8_next 152 = .ok (.iaload, 1) := by decide +kernel
theorem dX8_next_153 : decode cX8_next 153 = .ok (.iadd, 1) := by decide +kernel
theorem dX8_next_154 : decode cX8_next 154 = .ok (.iaload, 1) := by decide +kernel
theorem dX8_next_155 : decode cX8_next 155 = .ok (.aload_n 0, 1) := by decide +kernel
theorem dX8_next_156 : decode cX8_next 156 = .ok (.getfield 74, 3) := by decide +kernel
theorem dX8_next_159 : decode cX8_next 159 = .ok (.bipush 30, 2) := by decide +kernel
theorem dX8_next_161 : decode cX8_next 161 = .ok (.iload 6, 2) := by decide +kernel
theorem dX8_next_163 : decode cX8_next 163 = .ok (.imul, 1) := by decide +kernel
theorem dX8_next_164 : decode cX8_next 164 = .ok (.aload_n 0, 1) := by decide +kernel
theorem dX8_next_165 : decode cX8_next 165 = .ok (.getfield 25, 3) := by decide +kernel
theorem dX8_next_168 : decode cX8_next 168 = .ok (.iload_n 3, 1) := by decide +kernel
theorem dX8_next_169 : decode cX8_next 169 = .ok (.iaload, 1) := by decide +kernel
theorem dX8_next_170 : decode cX8_next 170 = .ok (.iadd, 1) := by decide +kernel
theorem dX8_next_171 : decode cX8_next 171 = .ok (.iaload, 1) := by decide +kernel
theorem dX8_next_172 : decode cX8_next 172 = .ok (.if_icmp .eq 7, 3) := by decide +kernel
theorem dX8_next_175 : decode cX8_next 175 = .ok (.iconst 1, 1) := by decide +kernel
theorem dX8_next_176 : decode cX8_next 176 = .ok (.goto 4, 3) := by decide +kernel
theorem dX8_next_179 : decode cX8_next 179 = .ok (.iconst 0, 1) := by decide +kernel
theorem dX8_next_180 : decode cX8_next 180 = .ok (.iadd, 1) := by decide +kernel
theorem dX8_next_181 : decode cX8_next 181 = .ok (.istore 4, 2) := by decide +kernel
theorem dX8_next_183 : decode cX8_next 183 = .ok (.iinc 6 1, 3) := by decide +kernel
theorem dX8_next_186 : decode cX8_next 186 = .ok (.goto (-59), 3) := by decide +kernel
theorem dX8_next_189 : decode cX8_next 189 = .ok (.iinc 5 1, 3) := by decide +kernel
theorem dX8_next_192 : decode cX8_next 192 = .ok (.goto (-80), 3) := by decide +kernel
theorem dX8_next_195 : decode cX8_next 195 = .ok (.iload 4, 2) := by decide +kernel
theorem dX8_next_197 : decode cX8_next 197 = .ok (.iload_n 2, 1) := by decide +kernel
theorem dX8_next_198 : decode cX8_next 198 = .ok (.if_icmp .le 8, 3) := by decide +kernel
theorem dX8_next_201 : decode cX8_next 201 = .ok (.iload_n 3, 1) := by decide +kernel
theorem dX8_next_202 : decode cX8_next 202 = .ok (.istore_n 1, 1) := by decide +kernel
theorem dX8_next_203 : decode cX8_next 203 = .ok (.iload 4, 2) := by decide +kernel
theorem dX8_next_205 : decode cX8_next 205 = .ok (.istore_n 2, 1) := by decide +kernel
theorem dX8_next_206 : decode cX8_next 206 = .ok (.iinc 3 1, 3) := by decide +kernel
theorem dX8_next_209 : decode cX8_next 209 = .ok (.goto (-111), 3) := by decide +kernel
theorem dX8_next_212 : decode cX8_next 212 = .ok (.iload_n 1, 1) := by decide +kernel
theorem dX8_next_213 : decode cX8_next 213 = .ok (.ireturn, 1) := by decide +kernel
set_option maxRecDepth 20000 in
theorem ggX8_feed_X8_in : GoodIn wsX8_feed wsX8_in := goodIn_r _ [11] (by decide +kernel) (by decide +kernel)
set_option maxRecDepth 20000 in
theorem gX8_feed_X8_in : GoodIn wsX8_feed (va_wsS RX8 102 yX8_in wsX8_in) := goodIn_app (goodIn_of _ (by decide +kernel)) ggX8_feed_X8_in
theorem dX8_feed_0 : decode cX8_feed 0 = .ok (.aload_n 0, 1) := by decide +kernel
theorem dX8_feed_1 : decode cX8_feed 1 = .ok (.iconst 0, 1) := by decide +kernel
theorem dX8_feed_2 : decode cX8_feed 2 = .ok (.putfield 95, 3) := by decide +kernel
theorem dX8_feed_5 : decode cX8_feed 5 = .ok (.iload_n 3, 1) := by decide +kernel
theorem dX8_feed_6 : decode cX8_feed 6 = .ok (.i2l, 1) := by decide +kernel
theorem dX8_feed_7 : decode cX8_feed 7 = .ok (.lconst 1, 1) := by decide +kernel
theorem dX8_feed_8 : decode cX8_feed 8 = .ok (.ldc2_w 189, 3) := by decide +kernel
theorem dX8_feed_11 : decode cX8_feed 11 = .ok (.invokestatic 102, 3) := by decide +kernel
theorem dX8_feed_14 : decode cX8_feed 14 = .ok (.ifCond .ne 6, 3) := by decide +kernel
theorem dX8_feed_17 : decode cX8_feed 17 = .ok (.ldc 115, 2) := by decide +kernel
theorem dX8_feed_19 : decode cX8_feed 19 = .ok (.ireturn, 1) := by decide +kernel
theorem dX8_feed_20 : decode cX8_feed 20 = .ok (.aload_n 0, 1) := by decide +kernel
theorem dX8_feed_21 : decode cX8_feed 21 = .ok (.getfield 191, 3) := by decide +kernel
theorem dX8_feed_24 : decode cX8_feed 24 = .ok (.iload_n 3, 1) := by decide +kernel
theorem dX8_feed_25 : decode cX8_feed 25 = .ok (.iadd, 1) := by decide +kernel
theorem dX8_feed_26 : decode cX8_feed 26 = .ok (.sipush 300, 3) := by decide +kernel
theorem dX8_feed_29 : decode cX8_feed 29 = .ok (.if_icmp .le 6, 3) := by decide +kernel
theorem dX8_feed_32 : decode cX8_feed 32 = .ok (.ldc 116, 2) := by decide +kernel
theorem dX8_feed_34 : decode cX8_feed 34 = .ok (.ireturn, 1) := by decide +kernel
theorem dX8_feed_35 : decode cX8_feed 35 = .ok (.iload_n 3, 1) := by decide +kernel
theorem dX8_feed_36 : decode cX8_feed 36 = .ok (.iconst 1, 1) := by decide +kernel
theorem dX8_feed_37 : decode cX8_feed 37 = .ok (.isub, 1) := by decide +kernel
theorem dX8_feed_38 : decode cX8_feed 38 = .ok (.istore 4, 2) := by decide +kernel
theorem dX8_feed_40 : decode cX8_feed 40 = .ok (.iload 4, 2) := by decide +kernel
theorem dX8_feed_42 : decode cX8_feed 42 = .ok (.ifCond .lt 40, 3) := by decide +kernel
theorem dX8_feed_45 : decode cX8_feed 45 = .ok (.aload_n 0, 1) := by decide +kernel
theorem dX8_feed_46 : decode cX8_feed 46 = .ok (.getfield 77, 3) := by decide +kernel
theorem dX8_feed_49 : decode cX8_feed 49 = .ok (.aload_n 0, 1) := by decide +kernel
theorem dX8_feed_50 : decode cX8_feed 50 = .ok (.getfield 191, 3) := by decide +kernel
theorem dX8_feed_53 : decode cX8_feed 53 = .ok (.lload_n 1, 1) := by decide +kernel
theorem dX8_feed_54 : decode cX8_feed 54 = .ok (.bipush 8, 2) := by decide +kernel
theorem dX8_feed_56 : decode cX8_feed 56 = .ok (.iload 4, 2) := by decide +kernel
theorem dX8_feed_58 : decode cX8_feed 58 = .ok (.imul, 1) := by decide +kernel
theorem dX8_feed_59 : decode cX8_feed 59 = .ok (.lshr, 1) := by decide +kernel
theorem dX8_feed_60 : decode cX8_feed 60 = .ok (.ldc2_w 194, 3) := by decide +kernel
theorem dX8_feed_63 : decode cX8_feed 63 = .ok (.land, 1) := by decide +kernel
theorem dX8_feed_64 : decode cX8_feed 64 = .ok (.l2i, 1) := by decide +kernel
theorem dX8_feed_65 : decode cX8_feed 65 = .ok (.iastore, 1) := by decide +kernel
theorem dX8_feed_66 : decode cX8_feed 66 = .ok (.aload_n 0, 1) := by decide +kernel
theorem dX8_feed_67 : decode cX8_feed 67 = .ok (.dup, 1) := by decide +kernel
theorem dX8_feed_68 : decode cX8_feed 68 = .ok (.getfield 191, 3) := by decide +kernel
theorem dX8_feed_71 : decode cX8_feed 71 = .ok (.iconst 1, 1) := by decide +kernel
theorem dX8_feed_72 : decode cX8_feed 72 = .ok (.iadd, 1) := by decide +kernel
theorem dX8_feed_73 : decode cX8_feed 73 = .ok (.putfield 191, 3) := by decide +kernel
theorem dX8_feed_76 : decode cX8_feed 76 = .ok (.iinc 4 (-1), 3) := by decide +kernel
theorem dX8_feed_79 : decode cX8_feed 79 = .ok (.goto (-39), 3) := by decide +kernel
theorem dX8_feed_82 : decode cX8_feed 82 = .ok (.aload_n 0, 1) := by decide +kernel
theorem dX8_feed_83 : decode cX8_feed 83 = .ok (.getfield 191, 3) := by decide +kernel
theorem dX8_feed_86 : decode cX8_feed 86 = .ok (.ireturn, 1) := by decide +kernel
theorem dX8_byteAt_0 : decode cX8_byteAt 0 = .ok (.iload_n 1, 1) := by decide +kernel
theorem dX8_byteAt_1 : decode cX8_byteAt 1 = .ok (.aload_n 0, 1) := by decide +kernel
theorem dX8_byteAt_2 : decode cX8_byteAt 2 = .ok (.getfield 196, 3) := by decide +kernel
theorem dX8_byteAt_5 : decode cX8_byteAt 5 = .ok (.if_icmp .ge 12, 3) := by decide +kernel
theorem dX8_byteAt_8 : decode cX8_byteAt 8 = .ok (.aload_n 0, 1) := by decide +kernel
theorem dX8_byteAt_9 : decode cX8_byteAt 9 = .ok (.getfield 77, 3) := by decide +kernel
theorem dX8_byteAt_12 : decode cX8_byteAt 12 = .ok (.iload_n 1, 1) := by decide +kernel
theorem dX8_byteAt_13 : decode cX8_byteAt 13 = .ok (.iaload, 1) := by decide +kernel
theorem dX8_byteAt_14 : decode cX8_byteAt 14 = .ok (.goto 5, 3) := by decide +kernel
theorem dX8_byteAt_17 : decode cX8_byteAt 17 = .ok (.ldc 106, 2) := by decide +kernel
theorem dX8_byteAt_19 : decode cX8_byteAt 19 = .ok (.ireturn, 1) := by decide +kernel
theorem dX8_isLetter_0 : decode cX8_isLetter 0 = .ok (.iload_n 0, 1) := by decide +kernel
theorem dX8_isLetter_1 : decode cX8_isLetter 1 = .ok (.bipush 97, 2) := by decide +kernel
theorem dX8_isLetter_3 : decode cX8_isLetter 3 = .ok (.if_icmp .lt 13, 3) := by decide +kernel
theorem dX8_isLetter_6 : decode cX8_isLetter 6 = .ok (.iload_n 0, 1) := by decide +kernel
theorem dX8_isLetter_7 : decode cX8_isLetter 7 = .ok (.bipush 122, 2) := by decide +kernel
theorem dX8_isLetter_9 : decode cX8_isLetter 9 = .ok (.if_icmp .gt 7, 3) := by decide +kernel
theorem dX8_isLetter_12 : decode cX8_isLetter 12 = .ok (.iconst 1, 1) := by decide +kernel
theorem dX8_isLetter_13 : decode cX8_isLetter 13 = .ok (.goto 4, 3) := by decide +kernel
theorem dX8_isLetter_16 : decode cX8_isLetter 16 = .ok (.iconst 0, 1) := by decide +kernel
theorem dX8_isLetter_17 : decode cX8_isLetter 17 = .ok (.ireturn, 1) := by decide +kernel
theorem dX8_isFigure_0 : decode cX8_isFigure 0 = .ok (.iload_n 0, 1) := by decide +kernel
theorem dX8_isFigure_1 : decode cX8_isFigure 1 = .ok (.bipush 48, 2) := by decide +kernel
theorem dX8_isFigure_3 : decode cX8_isFigure 3 = .ok (.if_icmp .lt 13, 3) := by decide +kernel
theorem dX8_isFigure_6 : decode cX8_isFigure 6 = .ok (.iload_n 0, 1) := by decide +kernel
theorem dX8_isFigure_7 : decode cX8_isFigure 7 = .ok (.bipush 57, 2) := by decide +kernel
theorem dX8_isFigure_9 : decode cX8_isFigure 9 = .ok (.if_icmp .gt 7, 3) := by decide +kernel
theorem dX8_isFigure_12 : decode cX8_isFigure 12 = .ok (.iconst 1, 1) := by decide +kernel
theorem dX8_isFigure_13 : decode cX8_isFigure 13 = .ok (.goto 4, 3) := by decide +kernel
theorem dX8_isFigure_16 : decode cX8_isFigure 16 = .ok (.iconst 0, 1) := by decide +kernel
theorem dX8_isFigure_17 : decode cX8_isFigure 17 = .ok (.ireturn, 1) := by decide +kernel
set_option maxRecDepth 20000 in
theorem ggX8_step_X8_byteAt : GoodIn wsX8_step wsX8_byteAt := goodIn_r _ [10, 11, 12, 3, 19, 20, 21, 22, 23, 24, 25, 26, 27, 28, 29, 30, 31, 32, 33, 34, 35, 36, 37, 38, 39, 40, 41, 42, 43, 44, 45, 46, 47, 48, 49, 50, 51, 52, 53, 54, 55, 56, 57, 58, 59, 60, 61, 62, 63, 64, 65, 66] (by decide +kernel) (by decide +kernel)
set_option maxRecDepth 20000 in
theorem gX8_step_X8_byteAt : GoodIn wsX8_step (wsV RX8 201 RX8 yX8_byteAt wsX8_byteAt) := goodIn_app (goodIn_of _ (by decide +kernel)) ggX8_step_X8_byteAt
set_option maxRecDepth 20000 in
theorem ggX8_step_X8_isLetter : GoodIn wsX8_step wsX8_isLetter := goodIn_r _ [15] (by decide +kernel) (by decide +kernel)
set_option maxRecDepth 20000 in
theorem gX8_step_X8_isLetter : GoodIn wsX8_step (va_wsS RX8 210 yX8_isLetter wsX8_isLetter) := goodIn_app (goodIn_of _ (by decide +kernel)) ggX8_step_X8_isLetter
set_option maxRecDepth 20000 in
theorem ggX8_step_X8_isFigure : GoodIn wsX8_step wsX8_isFigure := goodIn_r _ [18] (by decide +kernel) (by decide +kernel)
set_option maxRecDepth 20000 in
theorem gX8_step_X8_isFigure : GoodIn wsX8_step (va_wsS RX8 213 yX8_isFigure wsX8_isFigure) := goodIn_app (goodIn_of _ (by decide +kernel)) ggX8_step_X8_isFigure
theorem dX8_step_0 : decode cX8_step 0 = .ok (.aload_n 0, 1) := by decide +kernel
theorem dX8_step_1 : decode cX8_step 1 = .ok (.aload_n 0, 1) := by decide +kernel
theorem dX8_step_2 : decode cX8_step 2 = .ok (.getfield 198, 3) := by decide +kernel
theorem dX8_step_5 : decode cX8_step 5 = .ok (.invokevirtual 201, 3) := by decide +kernel
theorem dX8_step_8 : decode cX8_step 8 = .ok (.bipush 32, 2) := by decide +kernel
theorem dX8_step_10 : decode cX8_step 10 = .ok (.if_icmp .eq 16, 3) := by decide +kernel
theorem dX8_step_13 : decode cX8_step 13 = .ok (.aload_n 0, 1) := by decide +kernel
theorem dX8_step_14 : decode cX8_step 14 = .ok (.aload_n 0, 1) := by decide +kernel
theorem dX8_step_15 : decode cX8_step 15 = .ok (.getfield 198, 3) := by decide +kernel
theorem dX8_step_18 : decode cX8_step 18 = .ok (.invokevirtual 201, 3) := by decide +kernel
theorem dX8_step_21 : decode cX8_step 21 = .ok (.bipush 10, 2) := by decide +kernel
theorem dX8_step_23 : decode cX8_step 23 = .ok (.if_icmp .ne 16, 3) := by decide +kernel
theorem dX8_step_26 : decode cX8_step 26 = .ok (.aload_n 0, 1) := by decide +kernel
theorem dX8_step_27 : decode cX8_step 27 = .ok (.dup, 1) := by decide +kernel
theorem dX8_step_28 : decode cX8_step 28 = .ok (.getfield 198, 3) := by decide +kernel
theorem dX8_step_31 : decode cX8_step 31 = .ok (.iconst 1, 1) := by decide +kernel
theorem dX8_step_32 : decode cX8_step 32 = .ok (.iadd, 1) := by decide +kernel
theorem dX8_step_33 : decode cX8_step 33 = .ok (.putfield 198, 3) := by decide +kernel
theorem dX8_step_36 : decode cX8_step 36 = .ok (.goto (-36), 3) := by decide +kernel
theorem dX8_step_39 : decode cX8_step 39 = .ok (.aload_n 0, 1) := by decide +kernel
theorem dX8_step_40 : decode cX8_step 40 = .ok (.aload_n 0, 1) := by decide +kernel
theorem dX8_step_41 : decode cX8_step 41 = .ok (.getfield 198, 3) := by decide +kernel
theorem dX8_step_44 : decode cX8_step 44 = .ok (.putfield 204, 3) := by decide +kernel
theorem dX8_step_47 : decode cX8_step 47 = .ok (.aload_n 0, 1) := by decide +kernel
theorem dX8_step_48 : decode cX8_step 48 = .ok (.aload_n 0, 1) := by decide +kernel
theorem dX8_step_49 : decode cX8_step 49 = .ok (.getfield 198, 3) := by decide +kernel
theorem dX8_step_52 : decode cX8_step 52 = .ok (.invokevirtual 201, 3) := by decide +kernel
theorem dX8_step_55 : decode cX8_step 55 = .ok (.istore_n 1, 1) := by decide +kernel
theorem dX8_step_56 : decode cX8_step 56 = .ok (.iload_n 1, 1) := by decide +kernel
theorem dX8_step_57 : decode cX8_step 57 = .ok (.ldc 106, 2) := by decide +kernel
theorem dX8_step_59 : decode cX8_step 59 = .ok (.if_icmp .ne 11, 3) := by decide +kernel
theorem dX8_step_62 : decode cX8_step 62 = .ok (.aload_n 0, 1) := by decide +kernel
theorem dX8_step_63 : decode cX8_step 63 = .ok (.iconst 1, 1) := by decide +kernel
theorem dX8_step_64 : decode cX8_step 64 = .ok (.putfield 207, 3) := by decide +kernel
theorem dX8_step_67 : decode cX8_step 67 = .ok (.goto 153, 3) := by decide +kernel
theorem dX8_step_70 : decode cX8_step 70 = .ok (.iload_n 1, 1) := by decide +kernel
theorem dX8_step_71 : decode cX8_step 71 = .ok (.invokestatic 210, 3) := by decide +kernel
theorem dX8_step_74 : decode cX8_step 74 = .ok (.ifCond .eq 56, 3) := by decide +kernel
theorem dX8_step_77 : decode cX8_step 77 = .ok (.aload_n 0, 1) := by decide +kernel
theorem dX8_step_78 : decode cX8_step 78 = .ok (.aload_n 0, 1) := by decide +kernel
theorem dX8_step_79 : decode cX8_step 79 = .ok (.getfield 198, 3) := by decide +kernel
theorem dX8_step_82 : decode cX8_step 82 = .ok (.invokevirtual 201, 3) := by decide +kernel
theorem dX8_step_85 : decode cX8_step 85 = .ok (.invokestatic 210, 3) := by decide +kernel
theorem dX8_step_88 : decode cX8_step 88 = .ok (.ifCond .eq 16, 3) := by decide +kernel
theorem dX8_step_91 : decode cX8_step 91 = .ok (.aload_n 0, 1) := by decide +kernel
theorem dX8_step_92 : decode cX8_step 92 = .ok (.dup, 1) := by decide +kernel
theorem dX8_step_93 : decode cX8_step 93 = .ok (.getfield 198, 3) := by decide +kernel
theorem dX8_step_96 : decode cX8_step 96 = .ok (.iconst 1, 1) := by decide +kernel
theorem dX8_step_97 : decode cX8_step 97 = .ok (.iadd, 1) := by decide +kernel
theorem dX8_step_98 : decode cX8_step 98 = .ok (.putfield 198, 3) := by decide +kernel
theorem dX8_step_101 : decode cX8_step 101 = .ok (.goto (-24), 3) := by decide +kernel
theorem dX8_step_104 : decode cX8_step 104 = .ok (.aload_n 0, 1) := by decide +kernel
theorem dX8_step_105 : decode cX8_step 105 = .ok (.aload_n 0, 1) := by decide +kernel
theorem dX8_step_106 : decode cX8_step 106 = .ok (.getfield 198, 3) := by decide +kernel
theorem dX8_step_109 : decode cX8_step 109 = .ok (.aload_n 0, 1) := by decide +kernel
theorem dX8_step_110 : decode cX8_step 110 = .ok (.getfield 204, 3) := by decide +kernel
theorem dX8_step_113 : decode cX8_step 113 = .ok (.isub, 1) := by decide +kernel
theorem dX8_step_114 : decode cX8_step 114 = .ok (.bipush 6, 2) := by decide +kernel
theorem dX8_step_116 : decode cX8_step 116 = .ok (.if_icmp .le 7, 3) := by decide +kernel
theorem dX8_step_119 : decode cX8_step 119 = .ok (.iconst 0, 1) := by decide +kernel
theorem dX8_step_120 : decode cX8_step 120 = .ok (.goto 4, 3) := by decide +kernel
theorem dX8_step_123 : decode cX8_step 123 = .ok (.iconst 2, 1) := by decide +kernel
theorem dX8_step_124 : decode cX8_step 124 = .ok (.putfield 207, 3) := by decide +kernel
theorem dX8_step_127 : decode cX8_step 127 = .ok (.goto 93, 3) := by decide +kernel
theorem dX8_step_130 : decode cX8_step 130 = .ok (.iload_n 1, 1) := by decide +kernel
theorem dX8_step_131 : decode cX8_step 131 = .ok (.invokestatic 213, 3) := by decide +kernel
theorem dX8_step_134 : decode cX8_step 134 = .ok (.ifCond .eq 55, 3) := by decide +kernel
theorem dX8_step_137 : decode cX8_step 137 = .ok (.aload_n 0, 1) := by decide +kernel
theorem dX8_step_138 : decode cX8_step 138 = .ok (.aload_n 0, 1) := by decide +kernel
theorem dX8_step_139 : decode cX8_step 139 = .ok (.getfield 198, 3) := by decide +kernel
theorem dX8_step_142 : decode cX8_step 142 = .ok (.invokevirtual 201, 3) := by decide +kernel
theorem dX8_step_145 : decode cX8_step 145 = .ok (.invokestatic 213, 3) := by decide +kernel
theorem dX8_step_148 : decode cX8_step 148 = .ok (.ifCond .eq 16, 3) := by decide +kernel
theorem dX8_step_151 : decode cX8_step 151 = .ok (.aload_n 0, 1) := by decide +kernel
theorem dX8_step_152 : decode cX8_step 152 = .ok (.dup, 1) := by decide +kernel
theorem dX8_step_153 : decode cX8_step 153 = .ok (.getfield 198, 3) := by decide +kernel
theorem dX8_step_156 : decode cX8_step 156 = .ok (.iconst 1, 1) := by decide +kernel
theorem dX8_step_157 : decode cX8_step 157 = .ok (.iadd, 1) := by decide +kernel
theorem dX8_step_158 : decode cX8_step 158 = .ok (.putfield 198, 3) := by decide +kernel
theorem dX8_step_161 : decode cX8_step 161 = .ok (.goto (-24), 3) := by decide +kernel
theorem dX8_step_164 : decode cX8_step 164 = .ok (.aload_n 0, 1) := by decide +kernel
theorem dX8_step_165 : decode cX8_step 165 = .ok (.aload_n 0, 1) := by decide +kernel
theorem dX8_step_166 : decode cX8_step 166 = .ok (.getfield 198, 3) := by decide +kernel
theorem dX8_step_169 : decode cX8_step 169 = .ok (.aload_n 0, 1) := by decide +kernel
theorem dX8_step_170 : decode cX8_step 170 = .ok (.getfield 204, 3) := by decide +kernel
theorem dX8_step_173 : decode cX8_step 173 = .ok (.isub, 1) := by decide +kernel
theorem dX8_step_174 : decode cX8_step 174 = .ok (.iconst 4, 1) := by decide +kernel
theorem dX8_step_175 : decode cX8_step 175 = .ok (.if_icmp .le 7, 3) := by decide +kernel
end
section
theorem dX8_step_178 : decode cX8_step 178 = .ok (.iconst 0, 1) := by decide +kernel
theorem dX8_step_179 : decode cX8_step 179 = .ok (.goto 4, 3) := by decide +kernel
theorem dX8_step_182 : decode cX8_step 182 = .ok (.iconst 3, 1) := by decide +kernel
theorem dX8_step_183 : decode cX8_step 183 = .ok (.putfield 207, 3) := by decide +kernel
theorem dX8_step_186 : decode cX8_step 186 = .ok (.goto 34, 3) := by decide +kernel
theorem dX8_step_189 : decode cX8_step 189 = .ok (.aload_n 0, 1) := by decide +kernel
theorem dX8_step_190 : decode cX8_step 190 = .ok (.dup, 1) := by decide +kernel
theorem dX8_step_191 : decode cX8_step 191 = .ok (.getfield 198, 3) := by decide +kernel
theorem dX8_step_194 : decode cX8_step 194 = .ok (.iconst 1, 1) := by decide +kernel
theorem dX8_step_195 : decode cX8_step 195 = .ok (.iadd, 1) := by decide +kernel
theorem dX8_step_196 : decode cX8_step 196 = .ok (.putfield 198, 3) := by decide +kernel
theorem dX8_step_199 : decode cX8_step 199 = .ok (.aload_n 0, 1) := by decide +kernel
theorem dX8_step_200 : decode cX8_step 200 = .ok (.iload_n 1, 1) := by decide +kernel
theorem dX8_step_201 : decode cX8_step 201 = .ok (.bipush 59, 2) := by decide +kernel
theorem dX8_step_203 : decode cX8_step 203 = .ok (.if_icmp .eq 9, 3) := by decide +kernel
theorem dX8_step_206 : decode cX8_step 206 = .ok (.iload_n 1, 1) := by decide +kernel
theorem dX8_step_207 : decode cX8_step 207 = .ok (.bipush 60, 2) := by decide +kernel
theorem dX8_step_209 : decode cX8_step 209 = .ok (.if_icmp .ne 7, 3) := by decide +kernel
theorem dX8_step_212 : decode cX8_step 212 = .ok (.iconst 4, 1) := by decide +kernel
theorem dX8_step_213 : decode cX8_step 213 = .ok (.goto 4, 3) := by decide +kernel
theorem dX8_step_216 : decode cX8_step 216 = .ok (.iconst 0, 1) := by decide +kernel
theorem dX8_step_217 : decode cX8_step 217 = .ok (.putfield 207, 3) := by decide +kernel
theorem dX8_step_220 : decode cX8_step 220 = .ok (.aload_n 0, 1) := by decide +kernel
theorem dX8_step_221 : decode cX8_step 221 = .ok (.aload_n 0, 1) := by decide +kernel
theorem dX8_step_222 : decode cX8_step 222 = .ok (.getfield 198, 3) := by decide +kernel
theorem dX8_step_225 : decode cX8_step 225 = .ok (.putfield 216, 3) := by decide +kernel
theorem dX8_step_228 : decode cX8_step 228 = .ok (.return_, 1) := by decide +kernel
theorem dX8_bad_0 : decode cX8_bad 0 = .ok (.aload_n 0, 1) := by decide +kernel
theorem dX8_bad_1 : decode cX8_bad 1 = .ok (.getfield 219, 3) := by decide +kernel
theorem dX8_bad_4 : decode cX8_bad 4 = .ok (.ifCond .ne 16, 3) := by decide +kernel
theorem dX8_bad_7 : decode cX8_bad 7 = .ok (.aload_n 0, 1) := by decide +kernel
theorem dX8_bad_8 : decode cX8_bad 8 = .ok (.iload_n 1, 1) := by decide +kernel
theorem dX8_bad_9 : decode cX8_bad 9 = .ok (.putfield 219, 3) := by decide +kernel
theorem dX8_bad_12 : decode cX8_bad 12 = .ok (.aload_n 0, 1) := by decide +kernel
theorem dX8_bad_13 : decode cX8_bad 13 = .ok (.aload_n 0, 1) := by decide +kernel
theorem dX8_bad_14 : decode cX8_bad 14 = .ok (.getfield 204, 3) := by decide +kernel
theorem dX8_bad_17 : decode cX8_bad 17 = .ok (.putfield 222, 3) := by decide +kernel
theorem dX8_bad_20 : decode cX8_bad 20 = .ok (.return_, 1) := by decide +kernel
set_option maxRecDepth 20000 in
theorem ggX8_take_X8_bad : GoodIn wsX8_take wsX8_bad := goodIn_r _ [6, 1, 7, 8, 29, 30, 31, 32, 33, 34, 35, 36, 37, 38, 39, 40, 41, 42, 43, 44, 45, 46, 47, 48, 49, 50, 51, 52, 53, 54, 55, 56, 57, 58, 59, 60, 61, 62, 63, 64, 65, 66, 67, 68, 69, 70, 71, 72, 73, 74, 75, 76] (by decide +kernel) (by decide +kernel)
set_option maxRecDepth 20000 in
theorem gX8_take_X8_bad : GoodIn wsX8_take (wsV RX8 225 RX8 yX8_bad wsX8_bad) := goodIn_app (goodIn_of _ (by decide +kernel)) ggX8_take_X8_bad
set_option maxRecDepth 20000 in
theorem ggX8_take_X8_step : GoodIn wsX8_take wsX8_step := goodIn_r _ [12, 13, 7, 14, 15, 16, 17, 18, 19, 5, 20, 21, 22, 23, 24, 25, 26, 27, 28, 29, 30, 31, 32, 33, 34, 35, 36, 37, 38, 39, 40, 41, 42, 43, 44, 45, 46, 47, 48, 49, 50, 51, 52, 53, 54, 55, 56, 57, 58, 59, 60, 61, 62, 63, 64, 65, 66, 67, 68, 69, 70, 71, 72, 73, 74, 75, 76] (by decide +kernel) (by decide +kernel)
set_option maxRecDepth 20000 in
theorem gX8_take_X8_step : GoodIn wsX8_take (wsV RX8 228 RX8 yX8_step wsX8_step) := goodIn_app (goodIn_of _ (by decide +kernel)) ggX8_take_X8_step
theorem dX8_take_0 : decode cX8_take 0 = .ok (.iload_n 1, 1) := by decide +kernel
theorem dX8_take_1 : decode cX8_take 1 = .ok (.ifCond .ne 8, 3) := by decide +kernel
theorem dX8_take_4 : decode cX8_take 4 = .ok (.aload_n 0, 1) := by decide +kernel
theorem dX8_take_5 : decode cX8_take 5 = .ok (.iconst 1, 1) := by decide +kernel
theorem dX8_take_6 : decode cX8_take 6 = .ok (.invokevirtual 225, 3) := by decide +kernel
theorem dX8_take_9 : decode cX8_take 9 = .ok (.aload_n 0, 1) := by decide +kernel
theorem dX8_take_10 : decode cX8_take 10 = .ok (.getfield 219, 3) := by decide +kernel
theorem dX8_take_13 : decode cX8_take 13 = .ok (.ifCond .ne 7, 3) := by decide +kernel
theorem dX8_take_16 : decode cX8_take 16 = .ok (.aload_n 0, 1) := by decide +kernel
theorem dX8_take_17 : decode cX8_take 17 = .ok (.invokevirtual 228, 3) := by decide +kernel
theorem dX8_take_20 : decode cX8_take 20 = .ok (.return_, 1) := by decide +kernel
theorem dX8_is_0 : decode cX8_is 0 = .ok (.aload_n 0, 1) := by decide +kernel
theorem dX8_is_1 : decode cX8_is 1 = .ok (.getfield 207, 3) := by decide +kernel
theorem dX8_is_4 : decode cX8_is 4 = .ok (.iconst 4, 1) := by decide +kernel
theorem dX8_is_5 : decode cX8_is 5 = .ok (.if_icmp .ne 20, 3) := by decide +kernel
theorem dX8_is_8 : decode cX8_is 8 = .ok (.aload_n 0, 1) := by decide +kernel
theorem dX8_is_9 : decode cX8_is 9 = .ok (.getfield 77, 3) := by decide +kernel
theorem dX8_is_12 : decode cX8_is 12 = .ok (.aload_n 0, 1) := by decide +kernel
theorem dX8_is_13 : decode cX8_is 13 = .ok (.getfield 204, 3) := by decide +kernel
theorem dX8_is_16 : decode cX8_is 16 = .ok (.iaload, 1) := by decide +kernel
theorem dX8_is_17 : decode cX8_is 17 = .ok (.iload_n 1, 1) := by decide +kernel
theorem dX8_is_18 : decode cX8_is 18 = .ok (.if_icmp .ne 7, 3) := by decide +kernel
theorem dX8_is_21 : decode cX8_is 21 = .ok (.iconst 1, 1) := by decide +kernel
theorem dX8_is_22 : decode cX8_is 22 = .ok (.goto 4, 3) := by decide +kernel
theorem dX8_is_25 : decode cX8_is 25 = .ok (.iconst 0, 1) := by decide +kernel
theorem dX8_is_26 : decode cX8_is 26 = .ok (.ireturn, 1) := by decide +kernel
theorem dX8_name_0 : decode cX8_name 0 = .ok (.lconst 0, 1) := by decide +kernel
theorem dX8_name_1 : decode cX8_name 1 = .ok (.lstore_n 1, 1) := by decide +kernel
theorem dX8_name_2 : decode cX8_name 2 = .ok (.aload_n 0, 1) := by decide +kernel
theorem dX8_name_3 : decode cX8_name 3 = .ok (.getfield 204, 3) := by decide +kernel
theorem dX8_name_6 : decode cX8_name 6 = .ok (.istore_n 3, 1) := by decide +kernel
theorem dX8_name_7 : decode cX8_name 7 = .ok (.iload_n 3, 1) := by decide +kernel
theorem dX8_name_8 : decode cX8_name 8 = .ok (.aload_n 0, 1) := by decide +kernel
theorem dX8_name_9 : decode cX8_name 9 = .ok (.getfield 216, 3) := by decide +kernel
theorem dX8_name_12 : decode cX8_name 12 = .ok (.if_icmp .ge 30, 3) := by decide +kernel
theorem dX8_name_15 : decode cX8_name 15 = .ok (.aload_n 0, 1) := by decide +kernel
theorem dX8_name_16 : decode cX8_name 16 = .ok (.getfield 207, 3) := by decide +kernel
theorem dX8_name_19 : decode cX8_name 19 = .ok (.iconst 2, 1) := by decide +kernel
theorem dX8_name_20 : decode cX8_name 20 = .ok (.if_icmp .ne 22, 3) := by decide +kernel
theorem dX8_name_23 : decode cX8_name 23 = .ok (.lload_n 1, 1) := by decide +kernel
theorem dX8_name_24 : decode cX8_name 24 = .ok (.bipush 8, 2) := by decide +kernel
theorem dX8_name_26 : decode cX8_name 26 = .ok (.lshl, 1) := by decide +kernel
theorem dX8_name_27 : decode cX8_name 27 = .ok (.aload_n 0, 1) := by decide +kernel
theorem dX8_name_28 : decode cX8_name 28 = .ok (.getfield 77, 3) := by decide +kernel
theorem dX8_name_31 : decode cX8_name 31 = .ok (.iload_n 3, 1) := by decide +kernel
theorem dX8_name_32 : decode cX8_name 32 = .ok (.iaload, 1) := by decide +kernel
theorem dX8_name_33 : decode cX8_name 33 = .ok (.i2l, 1) := by decide +kernel
theorem dX8_name_34 : decode cX8_name 34 = .ok (.lor, 1) := by decide +kernel
theorem dX8_name_35 : decode cX8_name 35 = .ok (.lstore_n 1, 1) := by decide +kernel
theorem dX8_name_36 : decode cX8_name 36 = .ok (.iinc 3 1, 3) := by decide +kernel
theorem dX8_name_39 : decode cX8_name 39 = .ok (.goto (-32), 3) := by decide +kernel
theorem dX8_name_42 : decode cX8_name 42 = .ok (.lload_n 1, 1) := by decide +kernel
theorem dX8_name_43 : decode cX8_name 43 = .ok (.lreturn, 1) := by decide +kernel
theorem dX8_number_0 : decode cX8_number 0 = .ok (.iconst 0, 1) := by decide +kernel
theorem dX8_number_1 : decode cX8_number 1 = .ok (.istore_n 1, 1) := by decide +kernel
theorem dX8_number_2 : decode cX8_number 2 = .ok (.aload_n 0, 1) := by decide +kernel
theorem dX8_number_3 : decode cX8_number 3 = .ok (.getfield 204, 3) := by decide +kernel
theorem dX8_number_6 : decode cX8_number 6 = .ok (.istore_n 2, 1) := by decide +kernel
theorem dX8_number_7 : decode cX8_number 7 = .ok (.iload_n 2, 1) := by decide +kernel
theorem dX8_number_8 : decode cX8_number 8 = .ok (.aload_n 0, 1) := by decide +kernel
theorem dX8_number_9 : decode cX8_number 9 = .ok (.getfield 216, 3) := by decide +kernel
theorem dX8_number_12 : decode cX8_number 12 = .ok (.if_icmp .ge 32, 3) := by decide +kernel
theorem dX8_number_15 : decode cX8_number 15 = .ok (.aload_n 0, 1) := by decide +kernel
theorem dX8_number_16 : decode cX8_number 16 = .ok (.getfield 207, 3) := by decide +kernel
theorem dX8_number_19 : decode cX8_number 19 = .ok (.iconst 3, 1) := by decide +kernel
theorem dX8_number_20 : decode cX8_number 20 = .ok (.if_icmp .ne 24, 3) := by decide +kernel
theorem dX8_number_23 : decode cX8_number 23 = .ok (.bipush 10, 2) := by decide +kernel
theorem dX8_number_25 : decode cX8_number 25 = .ok (.iload_n 1, 1) := by decide +kernel
theorem dX8_number_26 : decode cX8_number 26 = .ok (.imul, 1) := by decide +kernel
theorem dX8_number_27 : decode cX8_number 27 = .ok (.aload_n 0, 1) := by decide +kernel
theorem dX8_number_28 : decode cX8_number 28 = .ok (.getfield 77, 3) := by decide +kernel
theorem dX8_number_31 : decode cX8_number 31 = .ok (.iload_n 2, 1) := by decide +kernel
theorem dX8_number_32 : decode cX8_number 32 = .ok (.iaload, 1) := by decide +kernel
theorem dX8_number_33 : decode cX8_number 33 = .ok (.iadd, 1) := by decide +kernel
theorem dX8_number_34 : decode cX8_number 34 = .ok (.bipush 48, 2) := by decide +kernel
theorem dX8_number_36 : decode cX8_number 36 = .ok (.isub, 1) := by decide +kernel
theorem dX8_number_37 : decode cX8_number 37 = .ok (.istore_n 1, 1) := by decide +kernel
theorem dX8_number_38 : decode cX8_number 38 = .ok (.iinc 2 1, 3) := by decide +kernel
theorem dX8_number_41 : decode cX8_number 41 = .ok (.goto (-34), 3) := by decide +kernel
theorem dX8_number_44 : decode cX8_number 44 = .ok (.iload_n 1, 1) := by decide +kernel
theorem dX8_number_45 : decode cX8_number 45 = .ok (.ireturn, 1) := by decide +kernel
set_option maxRecDepth 20000 in
theorem ggX8_readOne_X8_name : GoodIn wsX8_readOne wsX8_name := goodIn_r _ [16, 17, 18, 3, 19, 62, 63, 64, 65, 66, 67, 68, 69, 70, 71, 72, 73, 74, 75, 76, 77, 78, 79, 80, 81, 82, 83, 84, 85, 86, 87, 88, 89, 90, 91, 92, 93, 94, 95, 96, 97, 98, 99, 100, 101, 102, 103, 104, 105, 106, 107, 108, 109] (by decide +kernel) (by decide +kernel)
set_option maxRecDepth 20000 in
theorem gX8_readOne_X8_name : GoodIn wsX8_readOne (wsV RX8 231 RX8 yX8_name wsX8_name) := goodIn_app (goodIn_of _ (by decide +kernel)) ggX8_readOne_X8_name
set_option maxRecDepth 20000 in
theorem ggX8_readOne_X8_take : GoodIn wsX8_readOne wsX8_take := goodIn_r _ [23, 2, 24, 25, 26, 15, 27, 17, 28, 29, 30, 31, 32, 33, 34, 3, 18, 35, 36, 37, 38, 39, 19, 40, 41, 42, 43, 44, 45, 62, 63, 64, 65, 66, 67, 68, 69, 70, 71, 72, 73, 74, 75, 76, 77, 78, 79, 80, 81, 82, 83, 84, 85, 86, 87, 88, 89, 90, 91, 92, 93, 94, 95, 96, 97, 98, 99, 100, 101, 102, 103, 104, 105, 106, 107, 108, 109] (by decide +kernel) (by decide +kernel)
set_option maxRecDepth 20000 in
theorem gX8_readOne_X8_take : GoodIn wsX8_readOne (wsV RX8 237 RX8 yX8_take wsX8_take) := goodIn_app (goodIn_of _ (by decide +kernel)) ggX8_readOne_X8_take
set_option maxRecDepth 20000 in
theorem ggX8_readOne_X8_number : GoodIn wsX8_readOne wsX8_number := goodIn_r _ [49, 17, 18, 3, 19, 62, 63, 64, 65, 66, 67, 68, 69, 70, 71, 72, 73, 74, 75, 76, 77, 78, 79, 80, 81, 82, 83, 84, 85, 86, 87, 88, 89, 90, 91, 92, 93, 94, 95, 96, 97, 98, 99, 100, 101, 102, 103, 104, 105, 106, 107, 108, 109] (by decide +kernel) (by decide +kernel)
set_option maxRecDepth 20000 in
theorem gX8_readOne_X8_number : GoodIn wsX8_readOne (wsV RX8 241 RX8 yX8_number wsX8_number) := goodIn_app (goodIn_of _ (by decide +kernel)) ggX8_readOne_X8_number
set_option maxRecDepth 20000 in
theorem ggX8_readOne_X8_isDial : GoodIn wsX8_readOne wsX8_isDial := goodIn_r _ [53, 54, 55, 56, 15, 57, 62, 63, 64, 65, 66, 67, 68, 69, 70, 71, 72, 73, 74, 75, 76, 77, 78, 79, 80, 81, 82, 83, 84, 85, 86, 87, 88, 89, 90, 91, 92, 93, 94, 95, 96, 97, 98, 99, 100, 101, 102, 103, 104, 105, 106, 107, 108, 109] (by decide +kernel) (by decide +kernel)
set_option maxRecDepth 20000 in
theorem gX8_readOne_X8_isDial : GoodIn wsX8_readOne (wsV RX8 157 RX8 yX8_isDial wsX8_isDial) := goodIn_app (goodIn_of _ (by decide +kernel)) ggX8_readOne_X8_isDial
set_option maxRecDepth 20000 in
theorem ggX8_readOne_X8_bad : GoodIn wsX8_readOne wsX8_bad := goodIn_r _ [27, 2, 17, 28, 62, 63, 64, 65, 66, 67, 68, 69, 70, 71, 72, 73, 74, 75, 76, 77, 78, 79, 80, 81, 82, 83, 84, 85, 86, 87, 88, 89, 90, 91, 92, 93, 94, 95, 96, 97, 98, 99, 100, 101, 102, 103, 104, 105, 106, 107, 108, 109] (by decide +kernel) (by decide +kernel)
set_option maxRecDepth 20000 in
theorem gX8_readOne_X8_bad : GoodIn wsX8_readOne (wsV RX8 225 RX8 yX8_bad wsX8_bad) := goodIn_app (goodIn_of _ (by decide +kernel)) ggX8_readOne_X8_bad
set_option maxRecDepth 20000 in
theorem ggX8_readOne_X8_is : GoodIn wsX8_readOne wsX8_is := goodIn_r _ [61, 3, 19, 17, 62, 63, 64, 65, 66, 67, 68, 69, 70, 71, 72, 73, 74, 75, 76, 77, 78, 79, 80, 81, 82, 83, 84, 85, 86, 87, 88, 89, 90, 91, 92, 93, 94, 95, 96, 97, 98, 99, 100, 101, 102, 103, 104, 105, 106, 107, 108, 109] (by decide +kernel) (by decide +kernel)
set_option maxRecDepth 20000 in
theorem gX8_readOne_X8_is : GoodIn wsX8_readOne (wsV RX8 251 RX8 yX8_is wsX8_is) := goodIn_app (goodIn_of _ (by decide +kernel)) ggX8_readOne_X8_is
theorem dX8_readOne_0 : decode cX8_readOne 0 = .ok (.aload_n 0, 1) := by decide +kernel
theorem dX8_readOne_1 : decode cX8_readOne 1 = .ok (.aload_n 0, 1) := by decide +kernel
theorem dX8_readOne_2 : decode cX8_readOne 2 = .ok (.invokevirtual 231, 3) := by decide +kernel
theorem dX8_readOne_5 : decode cX8_readOne 5 = .ok (.ldc2_w 235, 3) := by decide +kernel
theorem dX8_readOne_8 : decode cX8_readOne 8 = .ok (.lcmp, 1) := by decide +kernel
theorem dX8_readOne_9 : decode cX8_readOne 9 = .ok (.ifCond .ne 7, 3) := by decide +kernel
theorem dX8_readOne_12 : decode cX8_readOne 12 = .ok (.iconst 1, 1) := by decide +kernel
theorem dX8_readOne_13 : decode cX8_readOne 13 = .ok (.goto 4, 3) := by decide +kernel
theorem dX8_readOne_16 : decode cX8_readOne 16 = .ok (.iconst 0, 1) := by decide +kernel
theorem dX8_readOne_17 : decode cX8_readOne 17 = .ok (.invokevirtual 237, 3) := by decide +kernel
theorem dX8_readOne_20 : decode cX8_readOne 20 = .ok (.aload_n 0, 1) := by decide +kernel
theorem dX8_readOne_21 : decode cX8_readOne 21 = .ok (.getfield 219, 3) := by decide +kernel
theorem dX8_readOne_24 : decode cX8_readOne 24 = .ok (.ifCond .ne 27, 3) := by decide +kernel
theorem dX8_readOne_27 : decode cX8_readOne 27 = .ok (.aload_n 0, 1) := by decide +kernel
theorem dX8_readOne_28 : decode cX8_readOne 28 = .ok (.getfield 207, 3) := by decide +kernel
theorem dX8_readOne_31 : decode cX8_readOne 31 = .ok (.iconst 3, 1) := by decide +kernel
theorem dX8_readOne_32 : decode cX8_readOne 32 = .ok (.if_icmp .ne 19, 3) := by decide +kernel
theorem dX8_readOne_35 : decode cX8_readOne 35 = .ok (.aload_n 0, 1) := by decide +kernel
theorem dX8_readOne_36 : decode cX8_readOne 36 = .ok (.aload_n 0, 1) := by decide +kernel
theorem dX8_readOne_37 : decode cX8_readOne 37 = .ok (.invokevirtual 241, 3) := by decide +kernel
theorem dX8_readOne_40 : decode cX8_readOne 40 = .ok (.invokevirtual 157, 3) := by decide +kernel
theorem dX8_readOne_43 : decode cX8_readOne 43 = .ok (.ifCond .ne 8, 3) := by decide +kernel
theorem dX8_readOne_46 : decode cX8_readOne 46 = .ok (.aload_n 0, 1) := by decide +kernel
theorem dX8_readOne_47 : decode cX8_readOne 47 = .ok (.iconst 2, 1) := by decide +kernel
theorem dX8_readOne_48 : decode cX8_readOne 48 = .ok (.invokevirtual 225, 3) := by decide +kernel
theorem dX8_readOne_51 : decode cX8_readOne 51 = .ok (.aload_n 0, 1) := by decide +kernel
theorem dX8_readOne_52 : decode cX8_readOne 52 = .ok (.invokevirtual 241, 3) := by decide +kernel
theorem dX8_readOne_55 : decode cX8_readOne 55 = .ok (.istore_n 1, 1) := by decide +kernel
theorem dX8_readOne_56 : decode cX8_readOne 56 = .ok (.aload_n 0, 1) := by decide +kernel
theorem dX8_readOne_57 : decode cX8_readOne 57 = .ok (.aload_n 0, 1) := by decide +kernel
theorem dX8_readOne_58 : decode cX8_readOne 58 = .ok (.getfield 207, 3) := by decide +kernel
theorem dX8_readOne_61 : decode cX8_readOne 61 = .ok (.iconst 3, 1) := by decide +kernel
theorem dX8_readOne_62 : decode cX8_readOne 62 = .ok (.if_icmp .ne 7, 3) := by decide +kernel
theorem dX8_readOne_65 : decode cX8_readOne 65 = .ok (.iconst 1, 1) := by decide +kernel
theorem dX8_readOne_66 : decode cX8_readOne 66 = .ok (.goto 4, 3) := by decide +kernel
theorem dX8_readOne_69 : decode cX8_readOne 69 = .ok (.iconst 0, 1) := by decide +kernel
theorem dX8_readOne_70 : decode cX8_readOne 70 = .ok (.invokevirtual 237, 3) := by decide +kernel
theorem dX8_readOne_73 : decode cX8_readOne 73 = .ok (.aload_n 0, 1) := by decide +kernel
theorem dX8_readOne_74 : decode cX8_readOne 74 = .ok (.invokevirtual 231, 3) := by decide +kernel
theorem dX8_readOne_77 : decode cX8_readOne 77 = .ok (.lstore_n 2, 1) := by decide +kernel
theorem dX8_readOne_78 : decode cX8_readOne 78 = .ok (.lload_n 2, 1) := by decide +kernel
theorem dX8_readOne_79 : decode cX8_readOne 79 = .ok (.ldc2_w 245, 3) := by decide +kernel
theorem dX8_readOne_82 : decode cX8_readOne 82 = .ok (.lcmp, 1) := by decide +kernel
theorem dX8_readOne_83 : decode cX8_readOne 83 = .ok (.ifCond .ne 7, 3) := by decide +kernel
theorem dX8_readOne_86 : decode cX8_readOne 86 = .ok (.iconst 1, 1) := by decide +kernel
theorem dX8_readOne_87 : decode cX8_readOne 87 = .ok (.goto 28, 3) := by decide +kernel
theorem dX8_readOne_90 : decode cX8_readOne 90 = .ok (.lload_n 2, 1) := by decide +kernel
theorem dX8_readOne_91 : decode cX8_readOne 91 = .ok (.ldc2_w 247, 3) := by decide +kernel
theorem dX8_readOne_94 : decode cX8_readOne 94 = .ok (.lcmp, 1) := by decide +kernel
theorem dX8_readOne_95 : decode cX8_readOne 95 = .ok (.ifCond .ne 7, 3) := by decide +kernel
theorem dX8_readOne_98 : decode cX8_readOne 98 = .ok (.iconst 2, 1) := by decide +kernel
theorem dX8_readOne_99 : decode cX8_readOne 99 = .ok (.goto 16, 3) := by decide +kernel
theorem dX8_readOne_102 : decode cX8_readOne 102 = .ok (.lload_n 2, 1) := by decide +kernel
theorem dX8_readOne_103 : decode cX8_readOne 103 = .ok (.ldc2_w 249, 3) := by decide +kernel
theorem dX8_readOne_106 : decode cX8_readOne 106 = .ok (.lcmp, 1) := by decide +kernel
theorem dX8_readOne_107 : decode cX8_readOne 107 = .ok (.ifCond .ne 7, 3) := by decide +kernel
theorem dX8_readOne_110 : decode cX8_readOne 110 = .ok (.iconst 3, 1) := by decide +kernel
theorem dX8_readOne_111 : decode cX8_readOne 111 = .ok (.goto 4, 3) := by decide +kernel
theorem dX8_readOne_114 : decode cX8_readOne 114 = .ok (.iconst 0, 1) := by decide +kernel
theorem dX8_readOne_115 : decode cX8_readOne 115 = .ok (.istore 4, 2) := by decide +kernel
theorem dX8_readOne_117 : decode cX8_readOne 117 = .ok (.aload_n 0, 1) := by decide +kernel
theorem dX8_readOne_118 : decode cX8_readOne 118 = .ok (.iload 4, 2) := by decide +kernel
theorem dX8_readOne_120 : decode cX8_readOne 120 = .ok (.ifCond .le 7, 3) := by decide +kernel
theorem dX8_readOne_123 : decode cX8_readOne 123 = .ok (.iconst 1, 1) := by decide +kernel
theorem dX8_readOne_124 : decode cX8_readOne 124 = .ok (.goto 4, 3) := by decide +kernel
theorem dX8_readOne_127 : decode cX8_readOne 127 = .ok (.iconst 0, 1) := by decide +kernel
theorem dX8_readOne_128 : decode cX8_readOne 128 = .ok (.invokevirtual 237, 3) := by decide +kernel
theorem dX8_readOne_131 : decode cX8_readOne 131 = .ok (.iload 4, 2) := by decide +kernel
theorem dX8_readOne_133 : decode cX8_readOne 133 = .ok (.iconst 3, 1) := by decide +kernel
theorem dX8_readOne_134 : decode cX8_readOne 134 = .ok (.if_icmp .ne 13, 3) := by decide +kernel
theorem dX8_readOne_137 : decode cX8_readOne 137 = .ok (.aload_n 0, 1) := by decide +kernel
theorem dX8_readOne_138 : decode cX8_readOne 138 = .ok (.aload_n 0, 1) := by decide +kernel
theorem dX8_readOne_139 : decode cX8_readOne 139 = .ok (.bipush 60, 2) := by decide +kernel
theorem dX8_readOne_141 : decode cX8_readOne 141 = .ok (.invokevirtual 251, 3) := by decide +kernel
theorem dX8_readOne_144 : decode cX8_readOne 144 = .ok (.invokevirtual 237, 3) := by decide +kernel
theorem dX8_readOne_147 : decode cX8_readOne 147 = .ok (.aload_n 0, 1) := by decide +kernel
theorem dX8_readOne_148 : decode cX8_readOne 148 = .ok (.invokevirtual 241, 3) := by decide +kernel
theorem dX8_readOne_151 : decode cX8_readOne 151 = .ok (.istore 5, 2) := by decide +kernel
theorem dX8_readOne_153 : decode cX8_readOne 153 = .ok (.aload_n 0, 1) := by decide +kernel
theorem dX8_readOne_154 : decode cX8_readOne 154 = .ok (.aload_n 0, 1) := by decide +kernel
theorem dX8_readOne_155 : decode cX8_readOne 155 = .ok (.getfield 207, 3) := by decide +kernel
theorem dX8_readOne_158 : decode cX8_readOne 158 = .ok (.iconst 3, 1) := by decide +kernel
theorem dX8_readOne_159 : decode cX8_readOne 159 = .ok (.if_icmp .ne 7, 3) := by decide +kernel
theorem dX8_readOne_162 : decode cX8_readOne 162 = .ok (.iconst 1, 1) := by decide +kernel
theorem dX8_readOne_163 : decode cX8_readOne 163 = .ok (.goto 4, 3) := by decide +kernel
theorem dX8_readOne_166 : decode cX8_readOne 166 = .ok (.iconst 0, 1) := by decide +kernel
theorem dX8_readOne_167 : decode cX8_readOne 167 = .ok (.invokevirtual 237, 3) := by decide +kernel
theorem dX8_readOne_170 : decode cX8_readOne 170 = .ok (.iload 4, 2) := by decide +kernel
theorem dX8_readOne_172 : decode cX8_readOne 172 = .ok (.iconst 3, 1) := by decide +kernel
theorem dX8_readOne_173 : decode cX8_readOne 173 = .ok (.if_icmp .ne 10, 3) := by decide +kernel
theorem dX8_readOne_176 : decode cX8_readOne 176 = .ok (.aload_n 0, 1) := by decide +kernel
theorem dX8_readOne_177 : decode cX8_readOne 177 = .ok (.invokevirtual 241, 3) := by decide +kernel
theorem dX8_readOne_180 : decode cX8_readOne 180 = .ok (.goto 4, 3) := by decide +kernel
theorem dX8_readOne_183 : decode cX8_readOne 183 = .ok (.iconst 0, 1) := by decide +kernel
theorem dX8_readOne_184 : decode cX8_readOne 184 = .ok (.istore 6, 2) := by decide +kernel
theorem dX8_readOne_186 : decode cX8_readOne 186 = .ok (.iload 4, 2) := by decide +kernel
theorem dX8_readOne_188 : decode cX8_readOne 188 = .ok (.iconst 3, 1) := by decide +kernel
theorem dX8_readOne_189 : decode cX8_readOne 189 = .ok (.if_icmp .ne 20, 3) := by decide +kernel
theorem dX8_readOne_192 : decode cX8_readOne 192 = .ok (.aload_n 0, 1) := by decide +kernel
theorem dX8_readOne_193 : decode cX8_readOne 193 = .ok (.aload_n 0, 1) := by decide +kernel
theorem dX8_readOne_194 : decode cX8_readOne 194 = .ok (.getfield 207, 3) := by decide +kernel
theorem dX8_readOne_197 : decode cX8_readOne 197 = .ok (.iconst 3, 1) := by decide +kernel
theorem dX8_readOne_198 : decode cX8_readOne 198 = .ok (.if_icmp .ne 7, 3) := by decide +kernel
theorem dX8_readOne_201 : decode cX8_readOne 201 = .ok (.iconst 1, 1) := by decide +kernel
theorem dX8_readOne_202 : decode cX8_readOne 202 = .ok (.goto 4, 3) := by decide +kernel
theorem dX8_readOne_205 : decode cX8_readOne 205 = .ok (.iconst 0, 1) := by decide +kernel
theorem dX8_readOne_206 : decode cX8_readOne 206 = .ok (.invokevirtual 237, 3) := by decide +kernel
theorem dX8_readOne_209 : decode cX8_readOne 209 = .ok (.aload_n 0, 1) := by decide +kernel
theorem dX8_readOne_210 : decode cX8_readOne 210 = .ok (.aload_n 0, 1) := by decide +kernel
theorem dX8_readOne_211 : decode cX8_readOne 211 = .ok (.bipush 59, 2) := by decide +kernel
theorem dX8_readOne_213 : decode cX8_readOne 213 = .ok (.invokevirtual 251, 3) := by decide +kernel
theorem dX8_readOne_216 : decode cX8_readOne 216 = .ok (.invokevirtual 237, 3) := by decide +kernel
theorem dX8_readOne_219 : decode cX8_readOne 219 = .ok (.aload_n 0, 1) := by decide +kernel
theorem dX8_readOne_220 : decode cX8_readOne 220 = .ok (.getfield 219, 3) := by decide +kernel
theorem dX8_readOne_223 : decode cX8_readOne 223 = .ok (.ifCond .ne 56, 3) := by decide +kernel
theorem dX8_readOne_226 : decode cX8_readOne 226 = .ok (.aload_n 0, 1) := by decide +kernel
theorem dX8_readOne_227 : decode cX8_readOne 227 = .ok (.getfield 80, 3) := by decide +kernel
theorem dX8_readOne_230 : decode cX8_readOne 230 = .ok (.aload_n 0, 1) := by decide +kernel
theorem dX8_readOne_231 : decode cX8_readOne 231 = .ok (.getfield 254, 3) := by decide +kernel
theorem dX8_readOne_234 : decode cX8_readOne 234 = .ok (.iload_n 1, 1) := by decide +kernel
theorem dX8_readOne_235 : decode cX8_readOne 235 = .ok (.iastore, 1) := by decide +kernel
theorem dX8_readOne_236 : decode cX8_readOne 236 = .ok (.aload_n 0, 1) := by decide +kernel
theorem dX8_readOne_237 : decode cX8_readOne 237 = .ok (.getfield 83, 3) := by decide +kernel
theorem dX8_readOne_240 : decode cX8_readOne 240 = .ok (.aload_n 0, 1) := by decide +kernel
theorem dX8_readOne_241 : decode cX8_readOne 241 = .ok (.getfield 254, 3) := by decide +kernel
theorem dX8_readOne_244 : decode cX8_readOne 244 = .ok (.iload 4, 2) := by decide +kernel
theorem dX8_readOne_246 : decode cX8_readOne 246 = .ok (.iastore, 1) := by decide +kernel
theorem dX8_readOne_247 : decode cX8_readOne 247 = .ok (.aload_n 0, 1) := by decide +kernel
theorem dX8_readOne_248 : decode cX8_readOne 248 = .ok (.getfield 86, 3) := by decide +kernel
theorem dX8_readOne_251 : decode cX8_readOne 251 = .ok (.aload_n 0, 1) := by decide +kernel
theorem dX8_readOne_252 : decode cX8_readOne 252 = .ok (.getfield 254, 3) := by decide +kernel
theorem dX8_readOne_255 : decode cX8_readOne 255 = .ok (.iload 5, 2) := by decide +kernel
theorem dX8_readOne_257 : decode cX8_readOne 257 = .ok (.iastore, 1) := by decide +kernel
theorem dX8_readOne_258 : decode cX8_readOne 258 = .ok (.aload_n 0, 1) := by decide +kernel
theorem dX8_readOne_259 : decode cX8_readOne 259 = .ok (.getfield 89, 3) := by decide +kernel
theorem dX8_readOne_262 : decode cX8_readOne 262 = .ok (.aload_n 0, 1) := by decide +kernel
theorem dX8_readOne_263 : decode cX8_readOne 263 = .ok (.getfield 254, 3) := by decide +kernel
theorem dX8_readOne_266 : decode cX8_readOne 266 = .ok (.iload 6, 2) := by decide +kernel
theorem dX8_readOne_268 : decode cX8_readOne 268 = .ok (.iastore, 1) := by decide +kernel
theorem dX8_readOne_269 : decode cX8_readOne 269 = .ok (.aload_n 0, 1) := by decide +kernel
theorem dX8_readOne_270 : decode cX8_readOne 270 = .ok (.dup, 1) := by decide +kernel
theorem dX8_readOne_271 : decode cX8_readOne 271 = .ok (.getfield 254, 3) := by decide +kernel
theorem dX8_readOne_274 : decode cX8_readOne 274 = .ok (.iconst 1, 1) := by decide +kernel
theorem dX8_readOne_275 : decode cX8_readOne 275 = .ok (.iadd, 1) := by decide +kernel
theorem dX8_readOne_276 : decode cX8_readOne 276 = .ok (.putfield 254, 3) := by decide +kernel
theorem dX8_readOne_279 : decode cX8_readOne 279 = .ok (.return_, 1) := by decide +kernel
set_option maxRecDepth 20000 in
theorem ggX8_contracts_X8_step : GoodIn wsX8_contracts wsX8_step := goodIn_r _ [23, 4, 24, 25, 7, 26, 27, 28, 29, 22, 30, 3, 31, 32, 33, 34, 35, 36, 37, 74, 75, 76, 77, 78, 79, 80, 81, 82, 83, 84, 85, 86, 87, 88, 89, 90, 91, 92, 93, 94, 95, 96, 97, 98, 99, 100, 101, 102, 103, 104, 105, 106, 107, 108, 109, 110, 111, 112, 113, 114, 115, 116, 117, 118, 119, 120, 121] (by decide +kernel) (by decide +kernel)
set_option maxRecDepth 20000 in
theorem gX8_contracts_X8_step : GoodIn wsX8_contracts (wsV RX8 228 RX8 yX8_step wsX8_step) := goodIn_app (goodIn_of _ (by decide +kernel)) ggX8_contracts_X8_step
set_option maxRecDepth 20000 in
theorem ggX8_contracts_X8_readOne : GoodIn wsX8_contracts wsX8_readOne := goodIn_r _ [41, 42, 5, 7, 43, 44, 45, 11, 6, 13, 15, 17, 46, 47, 48, 22, 49, 24, 26, 31, 50, 51, 52, 53, 54, 55, 56, 57, 10, 19, 20, 21, 23, 4, 25, 27, 28, 29, 30, 3, 32, 33, 34, 35, 36, 37, 58, 59, 60, 61, 62, 63, 64, 65, 66, 67, 68, 69, 70, 71, 72, 73, 74, 75, 76, 77, 78, 79, 80, 81, 82, 83, 84, 85, 86, 87, 88, 89, 90, 91, 92, 93, 94, 95, 96, 97, 98, 99, 100, 101, 102, 103, 104, 105, 106, 107, 108, 109, 110, 111, 112, 113, 114, 115, 116, 117, 118, 119, 120, 121] (by decide +kernel) (by decide +kernel)
set_option maxRecDepth 20000 in
theorem gX8_contracts_X8_readOne : GoodIn wsX8_contracts (wsV RX8 257 RX8 yX8_readOne wsX8_readOne) := goodIn_app (goodIn_of _ (by decide +kernel)) ggX8_contracts_X8_readOne
theorem dX8_contracts_0 : decode cX8_contracts 0 = .ok (.aload_n 0, 1) := by decide +kernel
theorem dX8_contracts_1 : decode cX8_contracts 1 = .ok (.iconst 0, 1) := by decide +kernel
theorem dX8_contracts_2 : decode cX8_contracts 2 = .ok (.putfield 95, 3) := by decide +kernel
theorem dX8_contracts_5 : decode cX8_contracts 5 = .ok (.aload_n 0, 1) := by decide +kernel
theorem dX8_contracts_6 : decode cX8_contracts 6 = .ok (.aload_n 0, 1) := by decide +kernel
theorem dX8_contracts_7 : decode cX8_contracts 7 = .ok (.getfield 191, 3) := by decide +kernel
theorem dX8_contracts_10 : decode cX8_contracts 10 = .ok (.putfield 196, 3) := by decide +kernel
theorem dX8_contracts_13 : decode cX8_contracts 13 = .ok (.aload_n 0, 1) := by decide +kernel
theorem dX8_contracts_14 : decode cX8_contracts 14 = .ok (.iconst 0, 1) := by decide +kernel
theorem dX8_contracts_15 : decode cX8_contracts 15 = .ok (.putfield 191, 3) := by decide +kernel
theorem dX8_contracts_18 : decode cX8_contracts 18 = .ok (.aload_n 0, 1) := by decide +kernel
theorem dX8_contracts_19 : decode cX8_contracts 19 = .ok (.iconst 0, 1) := by decide +kernel
theorem dX8_contracts_20 : decode cX8_contracts 20 = .ok (.putfield 198, 3) := by decide +kernel
theorem dX8_contracts_23 : decode cX8_contracts 23 = .ok (.aload_n 0, 1) := by decide +kernel
theorem dX8_contracts_24 : decode cX8_contracts 24 = .ok (.iconst 0, 1) := by decide +kernel
theorem dX8_contracts_25 : decode cX8_contracts 25 = .ok (.putfield 219, 3) := by decide +kernel
theorem dX8_contracts_28 : decode cX8_contracts 28 = .ok (.aload_n 0, 1) := by decide +kernel
theorem dX8_contracts_29 : decode cX8_contracts 29 = .ok (.iconst 0, 1) := by decide +kernel
theorem dX8_contracts_30 : decode cX8_contracts 30 = .ok (.putfield 254, 3) := by decide +kernel
theorem dX8_contracts_33 : decode cX8_contracts 33 = .ok (.aload_n 0, 1) := by decide +kernel
theorem dX8_contracts_34 : decode cX8_contracts 34 = .ok (.invokevirtual 228, 3) := by decide +kernel
theorem dX8_contracts_37 : decode cX8_contracts 37 = .ok (.aload_n 0, 1) := by decide +kernel
theorem dX8_contracts_38 : decode cX8_contracts 38 = .ok (.getfield 219, 3) := by decide +kernel
theorem dX8_contracts_41 : decode cX8_contracts 41 = .ok (.ifCond .ne 18, 3) := by decide +kernel
theorem dX8_contracts_44 : decode cX8_contracts 44 = .ok (.aload_n 0, 1) := by decide +kernel
theorem dX8_contracts_45 : decode cX8_contracts 45 = .ok (.getfield 207, 3) := by decide +kernel
theorem dX8_contracts_48 : decode cX8_contracts 48 = .ok (.iconst 1, 1) := by decide +kernel
theorem dX8_contracts_49 : decode cX8_contracts 49 = .ok (.if_icmp .eq 10, 3) := by decide +kernel
theorem dX8_contracts_52 : decode cX8_contracts 52 = .ok (.aload_n 0, 1) := by decide +kernel
theorem dX8_contracts_53 : decode cX8_contracts 53 = .ok (.invokevirtual 257, 3) := by decide +kernel
theorem dX8_contracts_56 : decode cX8_contracts 56 = .ok (.goto (-19), 3) := by decide +kernel
theorem dX8_contracts_59 : decode cX8_contracts 59 = .ok (.aload_n 0, 1) := by decide +kernel
theorem dX8_contracts_60 : decode cX8_contracts 60 = .ok (.getfield 219, 3) := by decide +kernel
theorem dX8_contracts_63 : decode cX8_contracts 63 = .ok (.ifCond .le 20, 3) := by decide +kernel
theorem dX8_contracts_66 : decode cX8_contracts 66 = .ok (.aload_n 0, 1) := by decide +kernel
theorem dX8_contracts_67 : decode cX8_contracts 67 = .ok (.aload_n 0, 1) := by decide +kernel
theorem dX8_contracts_68 : decode cX8_contracts 68 = .ok (.getfield 219, 3) := by decide +kernel
theorem dX8_contracts_71 : decode cX8_contracts 71 = .ok (.putfield 260, 3) := by decide +kernel
theorem dX8_contracts_74 : decode cX8_contracts 74 = .ok (.ldc_w 263, 3) := by decide +kernel
theorem dX8_contracts_77 : decode cX8_contracts 77 = .ok (.aload_n 0, 1) := by decide +kernel
theorem dX8_contracts_78 : decode cX8_contracts 78 = .ok (.getfield 222, 3) := by decide +kernel
theorem dX8_contracts_81 : decode cX8_contracts 81 = .ok (.isub, 1) := by decide +kernel
theorem dX8_contracts_82 : decode cX8_contracts 82 = .ok (.ireturn, 1) := by decide +kernel
theorem dX8_contracts_83 : decode cX8_contracts 83 = .ok (.iconst 0, 1) := by decide +kernel
theorem dX8_contracts_84 : decode cX8_contracts 84 = .ok (.istore_n 1, 1) := by decide +kernel
theorem dX8_contracts_85 : decode cX8_contracts 85 = .ok (.iload_n 1, 1) := by decide +kernel
theorem dX8_contracts_86 : decode cX8_contracts 86 = .ok (.aload_n 0, 1) := by decide +kernel
theorem dX8_contracts_87 : decode cX8_contracts 87 = .ok (.getfield 254, 3) := by decide +kernel
theorem dX8_contracts_90 : decode cX8_contracts 90 = .ok (.if_icmp .ge 59, 3) := by decide +kernel
theorem dX8_contracts_93 : decode cX8_contracts 93 = .ok (.aload_n 0, 1) := by decide +kernel
theorem dX8_contracts_94 : decode cX8_contracts 94 = .ok (.getfield 80, 3) := by decide +kernel
theorem dX8_contracts_97 : decode cX8_contracts 97 = .ok (.iload_n 1, 1) := by decide +kernel
theorem dX8_contracts_98 : decode cX8_contracts 98 = .ok (.iaload, 1) := by decide +kernel
theorem dX8_contracts_99 : decode cX8_contracts 99 = .ok (.istore_n 2, 1) := by decide +kernel
theorem dX8_contracts_100 : decode cX8_contracts 100 = .ok (.aload_n 0, 1) := by decide +kernel
theorem dX8_contracts_101 : decode cX8_contracts 101 = .ok (.getfield 53, 3) := by decide +kernel
theorem dX8_contracts_104 : decode cX8_contracts 104 = .ok (.iload_n 2, 1) := by decide +kernel
theorem dX8_contracts_105 : decode cX8_contracts 105 = .ok (.aload_n 0, 1) := by decide +kernel
theorem dX8_contracts_106 : decode cX8_contracts 106 = .ok (.getfield 83, 3) := by decide +kernel
theorem dX8_contracts_109 : decode cX8_contracts 109 = .ok (.iload_n 1, 1) := by decide +kernel
theorem dX8_contracts_110 : decode cX8_contracts 110 = .ok (.iaload, 1) := by decide +kernel
theorem dX8_contracts_111 : decode cX8_contracts 111 = .ok (.iastore, 1) := by decide +kernel
theorem dX8_contracts_112 : decode cX8_contracts 112 = .ok (.aload_n 0, 1) := by decide +kernel
theorem dX8_contracts_113 : decode cX8_contracts 113 = .ok (.getfield 56, 3) := by decide +kernel
theorem dX8_contracts_116 : decode cX8_contracts 116 = .ok (.iload_n 2, 1) := by decide +kernel
theorem dX8_contracts_117 : decode cX8_contracts 117 = .ok (.aload_n 0, 1) := by decide +kernel
theorem dX8_contracts_118 : decode cX8_contracts 118 = .ok (.getfield 86, 3) := by decide +kernel
theorem dX8_contracts_121 : decode cX8_contracts 121 = .ok (.iload_n 1, 1) := by decide +kernel
theorem dX8_contracts_122 : decode cX8_contracts 122 = .ok (.iaload, 1) := by decide +kernel
theorem dX8_contracts_123 : decode cX8_contracts 123 = .ok (.iastore, 1) := by decide +kernel
theorem dX8_contracts_124 : decode cX8_contracts 124 = .ok (.aload_n 0, 1) := by decide +kernel
theorem dX8_contracts_125 : decode cX8_contracts 125 = .ok (.getfield 59, 3) := by decide +kernel
theorem dX8_contracts_128 : decode cX8_contracts 128 = .ok (.iload_n 2, 1) := by decide +kernel
theorem dX8_contracts_129 : decode cX8_contracts 129 = .ok (.aload_n 0, 1) := by decide +kernel
theorem dX8_contracts_130 : decode cX8_contracts 130 = .ok (.getfield 89, 3) := by decide +kernel
theorem dX8_contracts_133 : decode cX8_contracts 133 = .ok (.iload_n 1, 1) := by decide +kernel
theorem dX8_contracts_134 : decode cX8_contracts 134 = .ok (.iaload, 1) := by decide +kernel
theorem dX8_contracts_135 : decode cX8_contracts 135 = .ok (.iastore, 1) := by decide +kernel
theorem dX8_contracts_136 : decode cX8_contracts 136 = .ok (.aload_n 0, 1) := by decide +kernel
theorem dX8_contracts_137 : decode cX8_contracts 137 = .ok (.getfield 62, 3) := by decide +kernel
theorem dX8_contracts_140 : decode cX8_contracts 140 = .ok (.iload_n 2, 1) := by decide +kernel
theorem dX8_contracts_141 : decode cX8_contracts 141 = .ok (.iconst 0, 1) := by decide +kernel
theorem dX8_contracts_142 : decode cX8_contracts 142 = .ok (.iastore, 1) := by decide +kernel
theorem dX8_contracts_143 : decode cX8_contracts 143 = .ok (.iinc 1 1, 3) := by decide +kernel
theorem dX8_contracts_146 : decode cX8_contracts 146 = .ok (.goto (-61), 3) := by decide +kernel
theorem dX8_contracts_149 : decode cX8_contracts 149 = .ok (.aload_n 0, 1) := by decide +kernel
theorem dX8_contracts_150 : decode cX8_contracts 150 = .ok (.getfield 254, 3) := by decide +kernel
theorem dX8_contracts_153 : decode cX8_contracts 153 = .ok (.ireturn, 1) := by decide +kernel
theorem dX8_fault_0 : decode cX8_fault 0 = .ok (.aload_n 0, 1) := by decide +kernel
theorem dX8_fault_1 : decode cX8_fault 1 = .ok (.iconst 0, 1) := by decide +kernel
theorem dX8_fault_2 : decode cX8_fault 2 = .ok (.putfield 95, 3) := by decide +kernel
theorem dX8_fault_5 : decode cX8_fault 5 = .ok (.aload_n 0, 1) := by decide +kernel
theorem dX8_fault_6 : decode cX8_fault 6 = .ok (.getfield 260, 3) := by decide +kernel
theorem dX8_fault_9 : decode cX8_fault 9 = .ok (.ireturn, 1) := by decide +kernel
set_option maxRecDepth 20000 in
theorem ggX8_owes_X8_isDial : GoodIn wsX8_owes wsX8_isDial := goodIn_r _ [8, 9, 10, 11, 7, 12, 13, 14, 15, 16, 17, 18, 19, 20, 21, 22, 23, 24, 25, 26, 27, 28, 29, 30, 31, 32, 33, 34, 35, 36, 37, 38, 39, 40, 41, 42, 43, 44, 45, 46, 47, 48, 49, 50, 51, 52, 53, 54, 55, 56, 57, 58, 59, 60] (by decide +kernel) (by decide +kernel)
set_option maxRecDepth 20000 in
theorem gX8_owes_X8_isDial : GoodIn wsX8_owes (wsV RX8 157 RX8 yX8_isDial wsX8_isDial) := goodIn_app (goodIn_of _ (by decide +kernel)) ggX8_owes_X8_isDial
theorem dX8_owes_0 : decode cX8_owes 0 = .ok (.aload_n 0, 1) := by decide +kernel
theorem dX8_owes_1 : decode cX8_owes 1 = .ok (.iconst 0, 1) := by decide +kernel
theorem dX8_owes_2 : decode cX8_owes 2 = .ok (.putfield 95, 3) := by decide +kernel
theorem dX8_owes_5 : decode cX8_owes 5 = .ok (.aload_n 0, 1) := by decide +kernel
theorem dX8_owes_6 : decode cX8_owes 6 = .ok (.iload_n 1, 1) := by decide +kernel
theorem dX8_owes_7 : decode cX8_owes 7 = .ok (.invokevirtual 157, 3) := by decide +kernel
theorem dX8_owes_10 : decode cX8_owes 10 = .ok (.ifCond .eq 12, 3) := by decide +kernel
theorem dX8_owes_13 : decode cX8_owes 13 = .ok (.aload_n 0, 1) := by decide +kernel
theorem dX8_owes_14 : decode cX8_owes 14 = .ok (.getfield 62, 3) := by decide +kernel
theorem dX8_owes_17 : decode cX8_owes 17 = .ok (.iload_n 1, 1) := by decide +kernel
theorem dX8_owes_18 : decode cX8_owes 18 = .ok (.iaload, 1) := by decide +kernel
theorem dX8_owes_19 : decode cX8_owes 19 = .ok (.goto 5, 3) := by decide +kernel
theorem dX8_owes_22 : decode cX8_owes 22 = .ok (.ldc 115, 2) := by decide +kernel
theorem dX8_owes_24 : decode cX8_owes 24 = .ok (.ireturn, 1) := by decide +kernel
theorem dX8_kindOf_0 : decode cX8_kindOf 0 = .ok (.aload_n 0, 1) := by decide +kernel
theorem dX8_kindOf_1 : decode cX8_kindOf 1 = .ok (.getfield 37, 3) := by decide +kernel
theorem dX8_kindOf_4 : decode cX8_kindOf 4 = .ok (.iload_n 1, 1) := by decide +kernel
theorem dX8_kindOf_5 : decode cX8_kindOf 5 = .ok (.iaload, 1) := by decide +kernel
theorem dX8_kindOf_6 : decode cX8_kindOf 6 = .ok (.bipush 10, 2) := by decide +kernel
theorem dX8_kindOf_8 : decode cX8_kindOf 8 = .ok (.if_icmp .lt 7, 3) := by decide +kernel
theorem dX8_kindOf_11 : decode cX8_kindOf 11 = .ok (.iconst 3, 1) := by decide +kernel
theorem dX8_kindOf_12 : decode cX8_kindOf 12 = .ok (.goto 9, 3) := by decide +kernel
theorem dX8_kindOf_15 : decode cX8_kindOf 15 = .ok (.aload_n 0, 1) := by decide +kernel
theorem dX8_kindOf_16 : decode cX8_kindOf 16 = .ok (.getfield 31, 3) := by decide +kernel
theorem dX8_kindOf_19 : decode cX8_kindOf 19 = .ok (.iload_n 1, 1) := by decide +kernel
theorem dX8_kindOf_20 : decode cX8_kindOf 20 = .ok (.iaload, 1) := by decide +kernel
theorem dX8_kindOf_21 : decode cX8_kindOf 21 = .ok (.ireturn, 1) := by decide +kernel
set_option maxRecDepth 20000 in
theorem ggX8_kind_X8_isDial : GoodIn wsX8_kind wsX8_isDial := goodIn_r _ [7, 8, 9, 10, 6, 11, 18, 19, 20, 21, 22, 23, 24, 25, 26, 27, 28, 29, 30, 31, 32, 33, 34, 35, 36, 37, 38, 39, 40, 41, 42, 43, 44, 45, 46, 47, 48, 49, 50, 51, 52, 53, 54, 55, 56, 57, 58, 59, 60, 61, 62, 63, 64, 65] (by decide +kernel) (by decide +kernel)
set_option maxRecDepth 20000 in
theorem gX8_kind_X8_isDial : GoodIn wsX8_kind (wsV RX8 157 RX8 yX8_isDial wsX8_isDial) := goodIn_app (goodIn_of _ (by decide +kernel)) ggX8_kind_X8_isDial
set_option maxRecDepth 20000 in
theorem ggX8_kind_X8_kindOf : GoodIn wsX8_kind wsX8_kindOf := goodIn_r _ [15, 16, 17, 18, 19, 20, 21, 22, 23, 24, 25, 26, 27, 28, 29, 30, 31, 32, 33, 34, 35, 36, 37, 38, 39, 40, 41, 42, 43, 44, 45, 46, 47, 48, 49, 50, 51, 52, 53, 54, 55, 56, 57, 58, 59, 60, 61, 62, 63, 64, 65] (by decide +kernel) (by decide +kernel)
set_option maxRecDepth 20000 in
theorem gX8_kind_X8_kindOf : GoodIn wsX8_kind (wsV RX8 171 RX8 yX8_kindOf wsX8_kindOf) := goodIn_app (goodIn_of _ (by decide +kernel)) ggX8_kind_X8_kindOf
theorem dX8_kind_0 : decode cX8_kind 0 = .ok (.aload_n 0, 1) := by decide +kernel
theorem dX8_kind_1 : decode cX8_kind 1 = .ok (.iconst 0, 1) := by decide +kernel
theorem dX8_kind_2 : decode cX8_kind 2 = .ok (.putfield 95, 3) := by decide +kernel
theorem dX8_kind_5 : decode cX8_kind 5 = .ok (.aload_n 0, 1) := by decide +kernel
theorem dX8_kind_6 : decode cX8_kind 6 = .ok (.iload_n 1, 1) := by decide +kernel
theorem dX8_kind_7 : decode cX8_kind 7 = .ok (.invokevirtual 157, 3) := by decide +kernel
theorem dX8_kind_10 : decode cX8_kind 10 = .ok (.ifCond .eq 11, 3) := by decide +kernel
theorem dX8_kind_13 : decode cX8_kind 13 = .ok (.aload_n 0, 1) := by decide +kernel
theorem dX8_kind_14 : decode cX8_kind 14 = .ok (.iload_n 1, 1) := by decide +kernel
theorem dX8_kind_15 : decode cX8_kind 15 = .ok (.invokevirtual 171, 3) := by decide +kernel
theorem dX8_kind_18 : decode cX8_kind 18 = .ok (.goto 5, 3) := by decide +kernel
theorem dX8_kind_21 : decode cX8_kind 21 = .ok (.ldc 115, 2) := by decide +kernel
theorem dX8_kind_23 : decode cX8_kind 23 = .ok (.ireturn, 1) := by decide +kernel
set_option maxRecDepth 20000 in
theorem ggX8_as_X8_isDial : GoodIn wsX8_as wsX8_isDial := goodIn_r _ [10, 11, 12, 13, 9, 14, 21, 22, 23, 24, 25, 26, 27, 28, 29, 30, 31, 32, 33, 34, 35, 36, 37, 38, 39, 40, 41, 42, 43, 44, 45, 46, 47, 48, 49, 50, 51, 52, 53, 54, 55, 56, 57, 58, 59, 60, 61, 62, 63, 64, 65, 66, 67, 68] (by decide +kernel) (by decide +kernel)
set_option maxRecDepth 20000 in
theorem gX8_as_X8_isDial : GoodIn wsX8_as (wsV RX8 157 RX8 yX8_isDial wsX8_isDial) := goodIn_app (goodIn_of _ (by decide +kernel)) ggX8_as_X8_isDial
set_option maxRecDepth 20000 in
theorem ggX8_as_X8_in : GoodIn wsX8_as wsX8_in := goodIn_r _ [14] (by decide +kernel) (by decide +kernel)
set_option maxRecDepth 20000 in
theorem gX8_as_X8_in : GoodIn wsX8_as (va_wsS RX8 102 yX8_in wsX8_in) := goodIn_app (goodIn_of _ (by decide +kernel)) ggX8_as_X8_in
set_option maxRecDepth 20000 in
theorem ggX8_as_X8_kindOf : GoodIn wsX8_as wsX8_kindOf := goodIn_r _ [18, 19, 20, 21, 22, 23, 24, 25, 26, 27, 28, 29, 30, 31, 32, 33, 34, 35, 36, 37, 38, 39, 40, 41, 42, 43, 44, 45, 46, 47, 48, 49, 50, 51, 52, 53, 54, 55, 56, 57, 58, 59, 60, 61, 62, 63, 64, 65, 66, 67, 68] (by decide +kernel) (by decide +kernel)
set_option maxRecDepth 20000 in
theorem gX8_as_X8_kindOf : GoodIn wsX8_as (wsV RX8 171 RX8 yX8_kindOf wsX8_kindOf) := goodIn_app (goodIn_of _ (by decide +kernel)) ggX8_as_X8_kindOf
theorem dX8_as_0 : decode cX8_as 0 = .ok (.aload_n 0, 1) := by decide +kernel
theorem dX8_as_1 : decode cX8_as 1 = .ok (.iconst 0, 1) := by decide +kernel
theorem dX8_as_2 : decode cX8_as 2 = .ok (.putfield 95, 3) := by decide +kernel
theorem dX8_as_5 : decode cX8_as 5 = .ok (.aload_n 0, 1) := by decide +kernel
theorem dX8_as_6 : decode cX8_as 6 = .ok (.iload_n 1, 1) := by decide +kernel
theorem dX8_as_7 : decode cX8_as 7 = .ok (.invokevirtual 157, 3) := by decide +kernel
theorem dX8_as_10 : decode cX8_as 10 = .ok (.ifCond .eq 15, 3) := by decide +kernel
theorem dX8_as_13 : decode cX8_as 13 = .ok (.iload_n 2, 1) := by decide +kernel
theorem dX8_as_14 : decode cX8_as 14 = .ok (.i2l, 1) := by decide +kernel
theorem dX8_as_15 : decode cX8_as 15 = .ok (.lconst 0, 1) := by decide +kernel
theorem dX8_as_16 : decode cX8_as 16 = .ok (.ldc2_w 264, 3) := by decide +kernel
theorem dX8_as_19 : decode cX8_as 19 = .ok (.invokestatic 102, 3) := by decide +kernel
theorem dX8_as_22 : decode cX8_as 22 = .ok (.ifCond .ne 6, 3) := by decide +kernel
theorem dX8_as_25 : decode cX8_as 25 = .ok (.ldc 115, 2) := by decide +kernel
theorem dX8_as_27 : decode cX8_as 27 = .ok (.ireturn, 1) := by decide +kernel
theorem dX8_as_28 : decode cX8_as 28 = .ok (.aload_n 0, 1) := by decide +kernel
theorem dX8_as_29 : decode cX8_as 29 = .ok (.iload_n 1, 1) := by decide +kernel
theorem dX8_as_30 : decode cX8_as 30 = .ok (.invokevirtual 171, 3) := by decide +kernel
theorem dX8_as_33 : decode cX8_as 33 = .ok (.istore_n 3, 1) := by decide +kernel
theorem dX8_as_34 : decode cX8_as 34 = .ok (.iload_n 2, 1) := by decide +kernel
theorem dX8_as_35 : decode cX8_as 35 = .ok (.ifCond .eq 18, 3) := by decide +kernel
theorem dX8_as_38 : decode cX8_as 38 = .ok (.iload_n 3, 1) := by decide +kernel
theorem dX8_as_39 : decode cX8_as 39 = .ok (.iload_n 2, 1) := by decide +kernel
theorem dX8_as_40 : decode cX8_as 40 = .ok (.if_icmp .eq 13, 3) := by decide +kernel
theorem dX8_as_43 : decode cX8_as 43 = .ok (.iload_n 2, 1) := by decide +kernel
theorem dX8_as_44 : decode cX8_as 44 = .ok (.iconst 1, 1) := by decide +kernel
theorem dX8_as_45 : decode cX8_as 45 = .ok (.if_icmp .ne 17, 3) := by decide +kernel
theorem dX8_as_48 : decode cX8_as 48 = .ok (.iload_n 3, 1) := by decide +kernel
theorem dX8_as_49 : decode cX8_as 49 = .ok (.iconst 2, 1) := by decide +kernel
theorem dX8_as_50 : decode cX8_as 50 = .ok (.if_icmp .ne 12, 3) := by decide +kernel
theorem dX8_as_53 : decode cX8_as 53 = .ok (.aload_n 0, 1) := by decide +kernel
theorem dX8_as_54 : decode cX8_as 54 = .ok (.getfield 34, 3) := by decide +kernel
theorem dX8_as_57 : decode cX8_as 57 = .ok (.iload_n 1, 1) := by decide +kernel
theorem dX8_as_58 : decode cX8_as 58 = .ok (.iaload, 1) := by decide +kernel
theorem dX8_as_59 : decode cX8_as 59 = .ok (.goto 5, 3) := by decide +kernel
theorem dX8_as_62 : decode cX8_as 62 = .ok (.ldc 174, 2) := by decide +kernel
theorem dX8_as_64 : decode cX8_as 64 = .ok (.ireturn, 1) := by decide +kernel
theorem dX8_began_0 : decode cX8_began 0 = .ok (.aload_n 0, 1) := by decide +kernel
theorem dX8_began_1 : decode cX8_began 1 = .ok (.getfield 266, 3) := by decide +kernel
theorem dX8_began_4 : decode cX8_began 4 = .ok (.bipush 16, 2) := by decide +kernel
theorem dX8_began_6 : decode cX8_began 6 = .ok (.if_icmp .ge 23, 3) := by decide +kernel
theorem dX8_began_9 : decode cX8_began 9 = .ok (.aload_n 0, 1) := by decide +kernel
theorem dX8_began_10 : decode cX8_began 10 = .ok (.getfield 92, 3) := by decide +kernel
theorem dX8_began_13 : decode cX8_began 13 = .ok (.aload_n 0, 1) := by decide +kernel
theorem dX8_began_14 : decode cX8_began 14 = .ok (.getfield 266, 3) := by decide +kernel
theorem dX8_began_17 : decode cX8_began 17 = .ok (.iload_n 1, 1) := by decide +kernel
theorem dX8_began_18 : decode cX8_began 18 = .ok (.iastore, 1) := by decide +kernel
theorem dX8_began_19 : decode cX8_began 19 = .ok (.aload_n 0, 1) := by decide +kernel
theorem dX8_began_20 : decode cX8_began 20 = .ok (.dup, 1) := by decide +kernel
theorem dX8_began_21 : decode cX8_began 21 = .ok (.getfield 266, 3) := by decide +kernel
theorem dX8_began_24 : decode cX8_began 24 = .ok (.iconst 1, 1) := by decide +kernel
theorem dX8_began_25 : decode cX8_began 25 = .ok (.iadd, 1) := by decide +kernel
theorem dX8_began_26 : decode cX8_began 26 = .ok (.putfield 266, 3) := by decide +kernel
theorem dX8_began_29 : decode cX8_began 29 = .ok (.return_, 1) := by decide +kernel
set_option maxRecDepth 20000 in
theorem ggX8_weight_X8_kindOf : GoodIn wsX8_weight wsX8_kindOf := goodIn_r _ [6, 7, 8, 15, 16, 17, 18, 19, 20, 21, 22, 23, 24, 25, 26, 27, 28, 29, 30, 31, 32, 33, 34, 35, 36, 37, 38, 39, 40, 41, 42, 43, 44, 45, 46, 47, 48, 49, 50, 51, 52, 53, 54, 55, 56, 57, 58, 59, 60, 61, 62] (by decide +kernel) (by decide +kernel)
set_option maxRecDepth 20000 in
theorem gX8_weight_X8_kindOf : GoodIn wsX8_weight (wsV RX8 171 RX8 yX8_kindOf wsX8_kindOf) := goodIn_app (goodIn_of _ (by decide +kernel)) ggX8_weight_X8_kindOf
set_option maxRecDepth 20000 in
theorem ggX8_weight_X8_began : GoodIn wsX8_weight wsX8_began := goodIn_r _ [12, 13, 14, 15, 16, 17, 18, 19, 20, 21, 22, 23, 24, 25, 26, 27, 28, 29, 30, 31, 32, 33, 34, 35, 36, 37, 38, 39, 40, 41, 42, 43, 44, 45, 46, 47, 48, 49, 50, 51, 52, 53, 54, 55, 56, 57, 58, 59, 60, 61, 62] (by decide +kernel) (by decide +kernel)
set_option maxRecDepth 20000 in
theorem gX8_weight_X8_began : GoodIn wsX8_weight (wsV RX8 269 RX8 yX8_began wsX8_began) := goodIn_app (goodIn_of _ (by decide +kernel)) ggX8_weight_X8_began
theorem dX8_weight_0 : decode cX8_weight 0 = .ok (.aload_n 0, 1) := by decide +kernel
theorem dX8_weight_1 : decode cX8_weight 1 = .ok (.iload_n 1, 1) := by decide +kernel
theorem dX8_weight_2 : decode cX8_weight 2 = .ok (.invokevirtual 171, 3) := by decide +kernel
theorem dX8_weight_5 : decode cX8_weight 5 = .ok (.istore_n 2, 1) := by decide +kernel
theorem dX8_weight_6 : decode cX8_weight 6 = .ok (.iload_n 2, 1) := by decide +kernel
theorem dX8_weight_7 : decode cX8_weight 7 = .ok (.iconst 3, 1) := by decide +kernel
theorem dX8_weight_8 : decode cX8_weight 8 = .ok (.if_icmp .ne 9, 3) := by decide +kernel
theorem dX8_weight_11 : decode cX8_weight 11 = .ok (.aload_n 0, 1) := by decide +kernel
theorem dX8_weight_12 : decode cX8_weight 12 = .ok (.bipush 13, 2) := by decide +kernel
theorem dX8_weight_14 : decode cX8_weight 14 = .ok (.invokevirtual 269, 3) := by decide +kernel
theorem dX8_weight_17 : decode cX8_weight 17 = .ok (.iload_n 2, 1) := by decide +kernel
theorem dX8_weight_18 : decode cX8_weight 18 = .ok (.iconst 2, 1) := by decide +kernel
theorem dX8_weight_19 : decode cX8_weight 19 = .ok (.if_icmp .ne 9, 3) := by decide +kernel
theorem dX8_weight_22 : decode cX8_weight 22 = .ok (.aload_n 0, 1) := by decide +kernel
theorem dX8_weight_23 : decode cX8_weight 23 = .ok (.bipush 12, 2) := by decide +kernel
theorem dX8_weight_25 : decode cX8_weight 25 = .ok (.invokevirtual 269, 3) := by decide +kernel
theorem dX8_weight_28 : decode cX8_weight 28 = .ok (.iload_n 2, 1) := by decide +kernel
theorem dX8_weight_29 : decode cX8_weight 29 = .ok (.iconst 1, 1) := by decide +kernel
theorem dX8_weight_30 : decode cX8_weight 30 = .ok (.if_icmp .eq 8, 3) := by decide +kernel
theorem dX8_weight_33 : decode cX8_weight 33 = .ok (.iload_n 2, 1) := by decide +kernel
theorem dX8_weight_34 : decode cX8_weight 34 = .ok (.iconst 2, 1) := by decide +kernel
theorem dX8_weight_35 : decode cX8_weight 35 = .ok (.if_icmp .ne 7, 3) := by decide +kernel
theorem dX8_weight_38 : decode cX8_weight 38 = .ok (.iconst 1, 1) := by decide +kernel
theorem dX8_weight_39 : decode cX8_weight 39 = .ok (.goto 4, 3) := by decide +kernel
theorem dX8_weight_42 : decode cX8_weight 42 = .ok (.iconst 0, 1) := by decide +kernel
theorem dX8_weight_43 : decode cX8_weight 43 = .ok (.istore_n 3, 1) := by decide +kernel
theorem dX8_weight_44 : decode cX8_weight 44 = .ok (.iload_n 3, 1) := by decide +kernel
theorem dX8_weight_45 : decode cX8_weight 45 = .ok (.ifCond .eq 9, 3) := by decide +kernel
theorem dX8_weight_48 : decode cX8_weight 48 = .ok (.aload_n 0, 1) := by decide +kernel
theorem dX8_weight_49 : decode cX8_weight 49 = .ok (.bipush 11, 2) := by decide +kernel
theorem dX8_weight_51 : decode cX8_weight 51 = .ok (.invokevirtual 269, 3) := by decide +kernel
theorem dX8_weight_54 : decode cX8_weight 54 = .ok (.aload_n 0, 1) := by decide +kernel
theorem dX8_weight_55 : decode cX8_weight 55 = .ok (.bipush 10, 2) := by decide +kernel
theorem dX8_weight_57 : decode cX8_weight 57 = .ok (.invokevirtual 269, 3) := by decide +kernel
theorem dX8_weight_60 : decode cX8_weight 60 = .ok (.aload_n 0, 1) := by decide +kernel
theorem dX8_weight_61 : decode cX8_weight 61 = .ok (.getfield 34, 3) := by decide +kernel
theorem dX8_weight_64 : decode cX8_weight 64 = .ok (.iload_n 1, 1) := by decide +kernel
theorem dX8_weight_65 : decode cX8_weight 65 = .ok (.iaload, 1) := by decide +kernel
theorem dX8_weight_66 : decode cX8_weight 66 = .ok (.istore 4, 2) := by decide +kernel
theorem dX8_weight_68 : decode cX8_weight 68 = .ok (.iload_n 2, 1) := by decide +kernel
theorem dX8_weight_69 : decode cX8_weight 69 = .ok (.iconst 3, 1) := by decide +kernel
theorem dX8_weight_70 : decode cX8_weight 70 = .ok (.if_icmp .ne 9, 3) := by decide +kernel
theorem dX8_weight_73 : decode cX8_weight 73 = .ok (.iload 4, 2) := by decide +kernel
theorem dX8_weight_75 : decode cX8_weight 75 = .ok (.ineg, 1) := by decide +kernel
theorem dX8_weight_76 : decode cX8_weight 76 = .ok (.goto 32, 3) := by decide +kernel
theorem dX8_weight_79 : decode cX8_weight 79 = .ok (.iload_n 3, 1) := by decide +kernel
theorem dX8_weight_80 : decode cX8_weight 80 = .ok (.ifCond .ne 8, 3) := by decide +kernel
theorem dX8_weight_83 : decode cX8_weight 83 = .ok (.iload 4, 2) := by decide +kernel
theorem dX8_weight_85 : decode cX8_weight 85 = .ok (.goto 23, 3) := by decide +kernel
theorem dX8_weight_88 : decode cX8_weight 88 = .ok (.iload_n 2, 1) := by decide +kernel
theorem dX8_weight_89 : decode cX8_weight 89 = .ok (.iconst 2, 1) := by decide +kernel
theorem dX8_weight_90 : decode cX8_weight 90 = .ok (.if_icmp .ne 13, 3) := by decide +kernel
theorem dX8_weight_93 : decode cX8_weight 93 = .ok (.iconst 2, 1) := by decide +kernel
theorem dX8_weight_94 : decode cX8_weight 94 = .ok (.iload 4, 2) := by decide +kernel
theorem dX8_weight_96 : decode cX8_weight 96 = .ok (.bipush 10, 2) := by decide +kernel
theorem dX8_weight_98 : decode cX8_weight 98 = .ok (.iadd, 1) := by decide +kernel
theorem dX8_weight_99 : decode cX8_weight 99 = .ok (.imul, 1) := by decide +kernel
theorem dX8_weight_100 : decode cX8_weight 100 = .ok (.goto 8, 3) := by decide +kernel
theorem dX8_weight_103 : decode cX8_weight 103 = .ok (.iload 4, 2) := by decide +kernel
theorem dX8_weight_105 : decode cX8_weight 105 = .ok (.bipush 10, 2) := by decide +kernel
theorem dX8_weight_107 : decode cX8_weight 107 = .ok (.iadd, 1) := by decide +kernel
theorem dX8_weight_108 : decode cX8_weight 108 = .ok (.ireturn, 1) := by decide +kernel
set_option maxRecDepth 20000 in
theorem ggX8_marked_X8_kindOf : GoodIn wsX8_marked wsX8_kindOf := goodIn_r _ [6, 7, 8, 20, 21, 22, 23, 24, 25, 26, 27, 28, 29, 30, 31, 32, 33, 34, 35, 36, 37, 38, 39, 40, 41, 42, 43, 44, 45, 46, 47, 48, 49, 50, 51, 52, 53, 54, 55, 56, 57, 58, 59, 60, 61, 62, 63, 64, 65, 66, 67] (by decide +kernel) (by decide +kernel)
set_option maxRecDepth 20000 in
theorem gX8_marked_X8_kindOf : GoodIn wsX8_marked (wsV RX8 171 RX8 yX8_kindOf wsX8_kindOf) := goodIn_app (goodIn_of _ (by decide +kernel)) ggX8_marked_X8_kindOf
set_option maxRecDepth 20000 in
theorem ggX8_marked_X8_began : GoodIn wsX8_marked wsX8_began := goodIn_r _ [12, 13, 14, 20, 21, 22, 23, 24, 25, 26, 27, 28, 29, 30, 31, 32, 33, 34, 35, 36, 37, 38, 39, 40, 41, 42, 43, 44, 45, 46, 47, 48, 49, 50, 51, 52, 53, 54, 55, 56, 57, 58, 59, 60, 61, 62, 63, 64, 65, 66, 67] (by decide +kernel) (by decide +kernel)
set_option maxRecDepth 20000 in
theorem gX8_marked_X8_began : GoodIn wsX8_marked (wsV RX8 269 RX8 yX8_began wsX8_began) := goodIn_app (goodIn_of _ (by decide +kernel)) ggX8_marked_X8_began
set_option maxRecDepth 20000 in
theorem ggX8_marked_X8_weight : GoodIn wsX8_marked wsX8_weight := goodIn_r _ [18, 19, 2, 3, 4, 5, 6, 7, 8, 9, 10, 11, 12, 13, 14, 20, 21, 22, 23, 24, 25, 26, 27, 28, 29, 30, 31, 32, 33, 34, 35, 36, 37, 38, 39, 40, 41, 42, 43, 44, 45, 46, 47, 48, 49, 50, 51, 52, 53, 54, 55, 56, 57, 58, 59, 60, 61, 62, 63, 64, 65, 66, 67] (by decide +kernel) (by decide +kernel)
set_option maxRecDepth 20000 in
theorem gX8_marked_X8_weight : GoodIn wsX8_marked (wsV RX8 272 RX8 yX8_weight wsX8_weight) := goodIn_app (goodIn_of _ (by decide +kernel)) ggX8_marked_X8_weight
theorem dX8_marked_0 : decode cX8_marked 0 = .ok (.aload_n 0, 1) := by decide +kernel
theorem dX8_marked_1 : decode cX8_marked 1 = .ok (.iload_n 1, 1) := by decide +kernel
theorem dX8_marked_2 : decode cX8_marked 2 = .ok (.invokevirtual 171, 3) := by decide +kernel
theorem dX8_marked_5 : decode cX8_marked 5 = .ok (.istore_n 2, 1) := by decide +kernel
theorem dX8_marked_6 : decode cX8_marked 6 = .ok (.iload_n 2, 1) := by decide +kernel
theorem dX8_marked_7 : decode cX8_marked 7 = .ok (.iconst 1, 1) := by decide +kernel
theorem dX8_marked_8 : decode cX8_marked 8 = .ok (.if_icmp .eq 8, 3) := by decide +kernel
theorem dX8_marked_11 : decode cX8_marked 11 = .ok (.iload_n 2, 1) := by decide +kernel
theorem dX8_marked_12 : decode cX8_marked 12 = .ok (.iconst 2, 1) := by decide +kernel
theorem dX8_marked_13 : decode cX8_marked 13 = .ok (.if_icmp .ne 7, 3) := by decide +kernel
theorem dX8_marked_16 : decode cX8_marked 16 = .ok (.iconst 1, 1) := by decide +kernel
theorem dX8_marked_17 : decode cX8_marked 17 = .ok (.goto 4, 3) := by decide +kernel
theorem dX8_marked_20 : decode cX8_marked 20 = .ok (.iconst 0, 1) := by decide +kernel
theorem dX8_marked_21 : decode cX8_marked 21 = .ok (.istore_n 3, 1) := by decide +kernel
theorem dX8_marked_22 : decode cX8_marked 22 = .ok (.iload_n 2, 1) := by decide +kernel
theorem dX8_marked_23 : decode cX8_marked 23 = .ok (.iconst 3, 1) := by decide +kernel
theorem dX8_marked_24 : decode cX8_marked 24 = .ok (.if_icmp .ne 9, 3) := by decide +kernel
theorem dX8_marked_27 : decode cX8_marked 27 = .ok (.aload_n 0, 1) := by decide +kernel
theorem dX8_marked_28 : decode cX8_marked 28 = .ok (.bipush 22, 2) := by decide +kernel
theorem dX8_marked_30 : decode cX8_marked 30 = .ok (.invokevirtual 269, 3) := by decide +kernel
theorem dX8_marked_33 : decode cX8_marked 33 = .ok (.iload_n 3, 1) := by decide +kernel
theorem dX8_marked_34 : decode cX8_marked 34 = .ok (.ifCond .eq 9, 3) := by decide +kernel
theorem dX8_marked_37 : decode cX8_marked 37 = .ok (.aload_n 0, 1) := by decide +kernel
theorem dX8_marked_38 : decode cX8_marked 38 = .ok (.bipush 21, 2) := by decide +kernel
theorem dX8_marked_40 : decode cX8_marked 40 = .ok (.invokevirtual 269, 3) := by decide +kernel
theorem dX8_marked_43 : decode cX8_marked 43 = .ok (.aload_n 0, 1) := by decide +kernel
theorem dX8_marked_44 : decode cX8_marked 44 = .ok (.bipush 20, 2) := by decide +kernel
theorem dX8_marked_46 : decode cX8_marked 46 = .ok (.invokevirtual 269, 3) := by decide +kernel
theorem dX8_marked_49 : decode cX8_marked 49 = .ok (.aload_n 0, 1) := by decide +kernel
theorem dX8_marked_50 : decode cX8_marked 50 = .ok (.getfield 28, 3) := by decide +kernel
theorem dX8_marked_53 : decode cX8_marked 53 = .ok (.iload_n 1, 1) := by decide +kernel
theorem dX8_marked_54 : decode cX8_marked 54 = .ok (.iaload, 1) := by decide +kernel
theorem dX8_marked_55 : decode cX8_marked 55 = .ok (.iload_n 2, 1) := by decide +kernel
theorem dX8_marked_56 : decode cX8_marked 56 = .ok (.iconst 3, 1) := by decide +kernel
theorem dX8_marked_57 : decode cX8_marked 57 = .ok (.if_icmp .ne 9, 3) := by decide +kernel
theorem dX8_marked_60 : decode cX8_marked 60 = .ok (.sipush 1000, 3) := by decide +kernel
theorem dX8_marked_63 : decode cX8_marked 63 = .ok (.goto 16, 3) := by decide +kernel
theorem dX8_marked_66 : decode cX8_marked 66 = .ok (.iload_n 3, 1) := by decide +kernel
theorem dX8_marked_67 : decode cX8_marked 67 = .ok (.ifCond .eq 11, 3) := by decide +kernel
theorem dX8_marked_70 : decode cX8_marked 70 = .ok (.aload_n 0, 1) := by decide +kernel
theorem dX8_marked_71 : decode cX8_marked 71 = .ok (.iload_n 1, 1) := by decide +kernel
theorem dX8_marked_72 : decode cX8_marked 72 = .ok (.invokevirtual 272, 3) := by decide +kernel
theorem dX8_marked_75 : decode cX8_marked 75 = .ok (.goto 4, 3) := by decide +kernel
theorem dX8_marked_78 : decode cX8_marked 78 = .ok (.iconst 0, 1) := by decide +kernel
theorem dX8_marked_79 : decode cX8_marked 79 = .ok (.iadd, 1) := by decide +kernel
theorem dX8_marked_80 : decode cX8_marked 80 = .ok (.ireturn, 1) := by decide +kernel
set_option maxRecDepth 20000 in
theorem ggX8_ask_X8_isDial : GoodIn wsX8_ask wsX8_isDial := goodIn_r _ [8, 9, 10, 11, 7, 12, 34, 35, 36, 37, 38, 39, 40, 41, 42, 43, 44, 45, 46, 47, 48, 49, 50, 51, 52, 53, 54, 55, 56, 57, 58, 59, 60, 61, 62, 63, 64, 65, 66, 67, 68, 69, 70, 71, 72, 73, 74, 75, 76, 77, 78, 79, 80, 81] (by decide +kernel) (by decide +kernel)
set_option maxRecDepth 20000 in
theorem gX8_ask_X8_isDial : GoodIn wsX8_ask (wsV RX8 157 RX8 yX8_isDial wsX8_isDial) := goodIn_app (goodIn_of _ (by decide +kernel)) ggX8_ask_X8_isDial
set_option maxRecDepth 20000 in
theorem ggX8_ask_X8_in : GoodIn wsX8_ask wsX8_in := goodIn_r _ [12] (by decide +kernel) (by decide +kernel)
set_option maxRecDepth 20000 in
theorem gX8_ask_X8_in : GoodIn wsX8_ask (va_wsS RX8 102 yX8_in wsX8_in) := goodIn_app (goodIn_of _ (by decide +kernel)) ggX8_ask_X8_in
set_option maxRecDepth 20000 in
theorem ggX8_ask_X8_weight : GoodIn wsX8_ask wsX8_weight := goodIn_r _ [16, 17, 18, 19, 20, 7, 21, 22, 23, 24, 25, 26, 27, 3, 28, 34, 35, 36, 37, 38, 39, 40, 41, 42, 43, 44, 45, 46, 47, 48, 49, 50, 51, 52, 53, 54, 55, 56, 57, 58, 59, 60, 61, 62, 63, 64, 65, 66, 67, 68, 69, 70, 71, 72, 73, 74, 75, 76, 77, 78, 79, 80, 81] (by decide +kernel) (by decide +kernel)
set_option maxRecDepth 20000 in
theorem gX8_ask_X8_weight : GoodIn wsX8_ask (wsV RX8 272 RX8 yX8_weight wsX8_weight) := goodIn_app (goodIn_of _ (by decide +kernel)) ggX8_ask_X8_weight
set_option maxRecDepth 20000 in
theorem ggX8_ask_X8_marked : GoodIn wsX8_ask wsX8_marked := goodIn_r _ [32, 33, 18, 19, 20, 7, 21, 22, 23, 24, 25, 26, 27, 3, 28, 13, 14, 15, 16, 17, 34, 35, 36, 37, 38, 39, 40, 41, 42, 43, 44, 45, 46, 47, 48, 49, 50, 51, 52, 53, 54, 55, 56, 57, 58, 59, 60, 61, 62, 63, 64, 65, 66, 67, 68, 69, 70, 71, 72, 73, 74, 75, 76, 77, 78, 79, 80, 81] (by decide +kernel) (by decide +kernel)
set_option maxRecDepth 20000 in
theorem gX8_ask_X8_marked : GoodIn wsX8_ask (wsV RX8 275 RX8 yX8_marked wsX8_marked) := goodIn_app (goodIn_of _ (by decide +kernel)) ggX8_ask_X8_marked
theorem dX8_ask_0 : decode cX8_ask 0 = .ok (.aload_n 0, 1) := by decide +kernel
theorem dX8_ask_1 : decode cX8_ask 1 = .ok (.iconst 0, 1) := by decide +kernel
theorem dX8_ask_2 : decode cX8_ask 2 = .ok (.putfield 95, 3) := by decide +kernel
theorem dX8_ask_5 : decode cX8_ask 5 = .ok (.aload_n 0, 1) := by decide +kernel
theorem dX8_ask_6 : decode cX8_ask 6 = .ok (.iload_n 1, 1) := by decide +kernel
theorem dX8_ask_7 : decode cX8_ask 7 = .ok (.invokevirtual 157, 3) := by decide +kernel
theorem dX8_ask_10 : decode cX8_ask 10 = .ok (.ifCond .eq 13, 3) := by decide +kernel
theorem dX8_ask_13 : decode cX8_ask 13 = .ok (.iload_n 2, 1) := by decide +kernel
theorem dX8_ask_14 : decode cX8_ask 14 = .ok (.i2l, 1) := by decide +kernel
theorem dX8_ask_15 : decode cX8_ask 15 = .ok (.lconst 0, 1) := by decide +kernel
theorem dX8_ask_16 : decode cX8_ask 16 = .ok (.lconst 1, 1) := by decide +kernel
theorem dX8_ask_17 : decode cX8_ask 17 = .ok (.invokestatic 102, 3) := by decide +kernel
theorem dX8_ask_20 : decode cX8_ask 20 = .ok (.ifCond .ne 6, 3) := by decide +kernel
theorem dX8_ask_23 : decode cX8_ask 23 = .ok (.ldc 115, 2) := by decide +kernel
theorem dX8_ask_25 : decode cX8_ask 25 = .ok (.ireturn, 1) := by decide +kernel
theorem dX8_ask_26 : decode cX8_ask 26 = .ok (.aload_n 0, 1) := by decide +kernel
theorem dX8_ask_27 : decode cX8_ask 27 = .ok (.iconst 0, 1) := by decide +kernel
theorem dX8_ask_28 : decode cX8_ask 28 = .ok (.putfield 266, 3) := by decide +kernel
theorem dX8_ask_31 : decode cX8_ask 31 = .ok (.iload_n 2, 1) := by decide +kernel
theorem dX8_ask_32 : decode cX8_ask 32 = .ok (.ifCond .ne 11, 3) := by decide +kernel
theorem dX8_ask_35 : decode cX8_ask 35 = .ok (.aload_n 0, 1) := by decide +kernel
theorem dX8_ask_36 : decode cX8_ask 36 = .ok (.iload_n 1, 1) := by decide +kernel
theorem dX8_ask_37 : decode cX8_ask 37 = .ok (.invokevirtual 272, 3) := by decide +kernel
theorem dX8_ask_40 : decode cX8_ask 40 = .ok (.goto 8, 3) := by decide +kernel
theorem dX8_ask_43 : decode cX8_ask 43 = .ok (.aload_n 0, 1) := by decide +kernel
theorem dX8_ask_44 : decode cX8_ask 44 = .ok (.iload_n 1, 1) := by decide +kernel
theorem dX8_ask_45 : decode cX8_ask 45 = .ok (.invokevirtual 275, 3) := by decide +kernel
theorem dX8_ask_48 : decode cX8_ask 48 = .ok (.ireturn, 1) := by decide +kernel
set_option maxRecDepth 20000 in
theorem ggX8_trace_X8_in : GoodIn wsX8_trace wsX8_in := goodIn_r _ [8] (by decide +kernel) (by decide +kernel)
set_option maxRecDepth 20000 in
theorem gX8_trace_X8_in : GoodIn wsX8_trace (va_wsS RX8 102 yX8_in wsX8_in) := goodIn_app (goodIn_of _ (by decide +kernel)) ggX8_trace_X8_in
theorem dX8_trace_0 : decode cX8_trace 0 = .ok (.aload_n 0, 1) := by decide +kernel
theorem dX8_trace_1 : decode cX8_trace 1 = .ok (.iconst 0, 1) := by decide +kernel
theorem dX8_trace_2 : decode cX8_trace 2 = .ok (.putfield 95, 3) := by decide +kernel
theorem dX8_trace_5 : decode cX8_trace 5 = .ok (.iload_n 1, 1) := by decide +kernel
theorem dX8_trace_6 : decode cX8_trace 6 = .ok (.i2l, 1) := by decide +kernel
theorem dX8_trace_7 : decode cX8_trace 7 = .ok (.lconst 0, 1) := by decide +kernel
theorem dX8_trace_8 : decode cX8_trace 8 = .ok (.aload_n 0, 1) := by decide +kernel
theorem dX8_trace_9 : decode cX8_trace 9 = .ok (.getfield 266, 3) := by decide +kernel
theorem dX8_trace_12 : decode cX8_trace 12 = .ok (.iconst 1, 1) := by decide +kernel
theorem dX8_trace_13 : decode cX8_trace 13 = .ok (.isub, 1) := by decide +kernel
theorem dX8_trace_14 : decode cX8_trace 14 = .ok (.i2l, 1) := by decide +kernel
theorem dX8_trace_15 : decode cX8_trace 15 = .ok (.invokestatic 102, 3) := by decide +kernel
theorem dX8_trace_18 : decode cX8_trace 18 = .ok (.ifCond .eq 12, 3) := by decide +kernel
theorem dX8_trace_21 : decode cX8_trace 21 = .ok (.aload_n 0, 1) := by decide +kernel
theorem dX8_trace_22 : decode cX8_trace 22 = .ok (.getfield 92, 3) := by decide +kernel
theorem dX8_trace_25 : decode cX8_trace 25 = .ok (.iload_n 1, 1) := by decide +kernel
theorem dX8_trace_26 : decode cX8_trace 26 = .ok (.iaload, 1) := by decide +kernel
theorem dX8_trace_27 : decode cX8_trace 27 = .ok (.goto 5, 3) := by decide +kernel
theorem dX8_trace_30 : decode cX8_trace 30 = .ok (.ldc 106, 2) := by decide +kernel
theorem dX8_trace_32 : decode cX8_trace 32 = .ok (.ireturn, 1) := by decide +kernel
set_option maxRecDepth 20000 in
theorem ggX8_count_X8_in : GoodIn wsX8_count wsX8_in := goodIn_r _ [13] (by decide +kernel) (by decide +kernel)
set_option maxRecDepth 20000 in
theorem gX8_count_X8_in : GoodIn wsX8_count (va_wsS RX8 102 yX8_in wsX8_in) := goodIn_app (goodIn_of _ (by decide +kernel)) ggX8_count_X8_in
set_option maxRecDepth 20000 in
theorem ggX8_count_X8_kindOf : GoodIn wsX8_count wsX8_kindOf := goodIn_r _ [17, 18, 19, 23, 24, 25, 26, 27, 28, 29, 30, 31, 32, 33, 34, 35, 36, 37, 38, 39, 40, 41, 42, 43, 44, 45, 46, 47, 48, 49, 50, 51, 52, 53, 54, 55, 56, 57, 58, 59, 60, 61, 62, 63, 64, 65, 66, 67, 68, 69, 70] (by decide +kernel) (by decide +kernel)
set_option maxRecDepth 20000 in
theorem gX8_count_X8_kindOf : GoodIn wsX8_count (wsV RX8 171 RX8 yX8_kindOf wsX8_kindOf) := goodIn_app (goodIn_of _ (by decide +kernel)) ggX8_count_X8_kindOf
set_option maxRecDepth 20000 in
theorem ggX8_count_X8_size : GoodIn wsX8_count wsX8_size := goodIn_r _ [22] (by decide +kernel) (by decide +kernel)
set_option maxRecDepth 20000 in
theorem gX8_count_X8_size : GoodIn wsX8_count (va_wsS RX8 168 yX8_size wsX8_size) := goodIn_app (goodIn_of _ (by decide +kernel)) ggX8_count_X8_size
theorem dX8_count_0 : decode cX8_count 0 = .ok (.aload_n 0, 1) := by decide +kernel
theorem dX8_count_1 : decode cX8_count 1 = .ok (.iconst 0, 1) := by decide +kernel
theorem dX8_count_2 : decode cX8_count 2 = .ok (.putfield 95, 3) := by decide +kernel
theorem dX8_count_5 : decode cX8_count 5 = .ok (.iload_n 1, 1) := by decide +kernel
theorem dX8_count_6 : decode cX8_count 6 = .ok (.i2l, 1) := by decide +kernel
theorem dX8_count_7 : decode cX8_count 7 = .ok (.lconst 0, 1) := by decide +kernel
theorem dX8_count_8 : decode cX8_count 8 = .ok (.ldc2_w 278, 3) := by decide +kernel
theorem dX8_count_11 : decode cX8_count 11 = .ok (.invokestatic 102, 3) := by decide +kernel
theorem dX8_count_14 : decode cX8_count 14 = .ok (.ifCond .ne 6, 3) := by decide +kernel
theorem dX8_count_17 : decode cX8_count 17 = .ok (.ldc 115, 2) := by decide +kernel
theorem dX8_count_19 : decode cX8_count 19 = .ok (.ireturn, 1) := by decide +kernel
theorem dX8_count_20 : decode cX8_count 20 = .ok (.iload_n 1, 1) := by decide +kernel
theorem dX8_count_21 : decode cX8_count 21 = .ok (.ifCond .eq 14, 3) := by decide +kernel
theorem dX8_count_24 : decode cX8_count 24 = .ok (.iload_n 1, 1) := by decide +kernel
theorem dX8_count_25 : decode cX8_count 25 = .ok (.iconst 1, 1) := by decide +kernel
theorem dX8_count_26 : decode cX8_count 26 = .ok (.if_icmp .eq 9, 3) := by decide +kernel
theorem dX8_count_29 : decode cX8_count 29 = .ok (.iload_n 1, 1) := by decide +kernel
theorem dX8_count_30 : decode cX8_count 30 = .ok (.bipush 7, 2) := by decide +kernel
theorem dX8_count_32 : decode cX8_count 32 = .ok (.if_icmp .ne 31, 3) := by decide +kernel
theorem dX8_count_35 : decode cX8_count 35 = .ok (.iload_n 1, 1) := by decide +kernel
theorem dX8_count_36 : decode cX8_count 36 = .ok (.ifCond .ne 10, 3) := by decide +kernel
theorem dX8_count_39 : decode cX8_count 39 = .ok (.aload_n 0, 1) := by decide +kernel
theorem dX8_count_40 : decode cX8_count 40 = .ok (.getfield 99, 3) := by decide +kernel
theorem dX8_count_43 : decode cX8_count 43 = .ok (.goto 19, 3) := by decide +kernel
theorem dX8_count_46 : decode cX8_count 46 = .ok (.iload_n 1, 1) := by decide +kernel
theorem dX8_count_47 : decode cX8_count 47 = .ok (.iconst 1, 1) := by decide +kernel
theorem dX8_count_48 : decode cX8_count 48 = .ok (.if_icmp .ne 10, 3) := by decide +kernel
theorem dX8_count_51 : decode cX8_count 51 = .ok (.aload_n 0, 1) := by decide +kernel
theorem dX8_count_52 : decode cX8_count 52 = .ok (.getfield 128, 3) := by decide +kernel
theorem dX8_count_55 : decode cX8_count 55 = .ok (.goto 7, 3) := by decide +kernel
theorem dX8_count_58 : decode cX8_count 58 = .ok (.aload_n 0, 1) := by decide +kernel
theorem dX8_count_59 : decode cX8_count 59 = .ok (.getfield 191, 3) := by decide +kernel
theorem dX8_count_62 : decode cX8_count 62 = .ok (.ireturn, 1) := by decide +kernel
theorem dX8_count_63 : decode cX8_count 63 = .ok (.iconst 0, 1) := by decide +kernel
theorem dX8_count_64 : decode cX8_count 64 = .ok (.istore_n 2, 1) := by decide +kernel
theorem dX8_count_65 : decode cX8_count 65 = .ok (.iconst 0, 1) := by decide +kernel
theorem dX8_count_66 : decode cX8_count 66 = .ok (.istore_n 3, 1) := by decide +kernel
theorem dX8_count_67 : decode cX8_count 67 = .ok (.iload_n 3, 1) := by decide +kernel
theorem dX8_count_68 : decode cX8_count 68 = .ok (.aload_n 0, 1) := by decide +kernel
theorem dX8_count_69 : decode cX8_count 69 = .ok (.getfield 128, 3) := by decide +kernel
theorem dX8_count_72 : decode cX8_count 72 = .ok (.if_icmp .ge 121, 3) := by decide +kernel
theorem dX8_count_75 : decode cX8_count 75 = .ok (.aload_n 0, 1) := by decide +kernel
theorem dX8_count_76 : decode cX8_count 76 = .ok (.iload_n 3, 1) := by decide +kernel
theorem dX8_count_77 : decode cX8_count 77 = .ok (.invokevirtual 171, 3) := by decide +kernel
theorem dX8_count_80 : decode cX8_count 80 = .ok (.istore 4, 2) := by decide +kernel
theorem dX8_count_82 : decode cX8_count 82 = .ok (.iload_n 1, 1) := by decide +kernel
theorem dX8_count_83 : decode cX8_count 83 = .ok (.iconst 2, 1) := by decide +kernel
theorem dX8_count_84 : decode cX8_count 84 = .ok (.if_icmp .ne 23, 3) := by decide +kernel
theorem dX8_count_87 : decode cX8_count 87 = .ok (.iload 4, 2) := by decide +kernel
theorem dX8_count_89 : decode cX8_count 89 = .ok (.iconst 1, 1) := by decide +kernel
theorem dX8_count_90 : decode cX8_count 90 = .ok (.if_icmp .eq 9, 3) := by decide +kernel
theorem dX8_count_93 : decode cX8_count 93 = .ok (.iload 4, 2) := by decide +kernel
theorem dX8_count_95 : decode cX8_count 95 = .ok (.iconst 2, 1) := by decide +kernel
theorem dX8_count_96 : decode cX8_count 96 = .ok (.if_icmp .ne 7, 3) := by decide +kernel
theorem dX8_count_99 : decode cX8_count 99 = .ok (.iconst 1, 1) := by decide +kernel
theorem dX8_count_100 : decode cX8_count 100 = .ok (.goto 54, 3) := by decide +kernel
theorem dX8_count_103 : decode cX8_count 103 = .ok (.iconst 0, 1) := by decide +kernel
theorem dX8_count_104 : decode cX8_count 104 = .ok (.goto 50, 3) := by decide +kernel
theorem dX8_count_107 : decode cX8_count 107 = .ok (.iload_n 1, 1) := by decide +kernel
theorem dX8_count_108 : decode cX8_count 108 = .ok (.iconst 3, 1) := by decide +kernel
theorem dX8_count_109 : decode cX8_count 109 = .ok (.if_icmp .ne 17, 3) := by decide +kernel
theorem dX8_count_112 : decode cX8_count 112 = .ok (.iload 4, 2) := by decide +kernel
theorem dX8_count_114 : decode cX8_count 114 = .ok (.iconst 3, 1) := by decide +kernel
theorem dX8_count_115 : decode cX8_count 115 = .ok (.if_icmp .ne 7, 3) := by decide +kernel
theorem dX8_count_118 : decode cX8_count 118 = .ok (.iconst 1, 1) := by decide +kernel
theorem dX8_count_119 : decode cX8_count 119 = .ok (.goto 35, 3) := by decide +kernel
theorem dX8_count_122 : decode cX8_count 122 = .ok (.iconst 0, 1) := by decide +kernel
theorem dX8_count_123 : decode cX8_count 123 = .ok (.goto 31, 3) := by decide +kernel
theorem dX8_count_126 : decode cX8_count 126 = .ok (.iload_n 1, 1) := by decide +kernel
theorem dX8_count_127 : decode cX8_count 127 = .ok (.iconst 4, 1) := by decide +kernel
theorem dX8_count_128 : decode cX8_count 128 = .ok (.if_icmp .ne 12, 3) := by decide +kernel
theorem dX8_count_131 : decode cX8_count 131 = .ok (.aload_n 0, 1) := by decide +kernel
theorem dX8_count_132 : decode cX8_count 132 = .ok (.getfield 46, 3) := by decide +kernel
theorem dX8_count_135 : decode cX8_count 135 = .ok (.iload_n 3, 1) := by decide +kernel
theorem dX8_count_136 : decode cX8_count 136 = .ok (.baload, 1) := by decide +kernel
theorem dX8_count_137 : decode cX8_count 137 = .ok (.goto 17, 3) := by decide +kernel
theorem dX8_count_140 : decode cX8_count 140 = .ok (.aload_n 0, 1) := by decide +kernel
theorem dX8_count_141 : decode cX8_count 141 = .ok (.getfield 53, 3) := by decide +kernel
theorem dX8_count_144 : decode cX8_count 144 = .ok (.iload_n 3, 1) := by decide +kernel
theorem dX8_count_145 : decode cX8_count 145 = .ok (.iaload, 1) := by decide +kernel
theorem dX8_count_146 : decode cX8_count 146 = .ok (.ifCond .le 7, 3) := by decide +kernel
theorem dX8_count_149 : decode cX8_count 149 = .ok (.iconst 1, 1) := by decide +kernel
theorem dX8_count_150 : decode cX8_count 150 = .ok (.goto 4, 3) := by decide +kernel
theorem dX8_count_153 : decode cX8_count 153 = .ok (.iconst 0, 1) := by decide +kernel
theorem dX8_count_154 : decode cX8_count 154 = .ok (.istore 5, 2) := by decide +kernel
theorem dX8_count_156 : decode cX8_count 156 = .ok (.iload_n 2, 1) := by decide +kernel
theorem dX8_count_157 : decode cX8_count 157 = .ok (.iload_n 1, 1) := by decide +kernel
theorem dX8_count_158 : decode cX8_count 158 = .ok (.bipush 6, 2) := by decide +kernel
theorem dX8_count_160 : decode cX8_count 160 = .ok (.if_icmp .ne 15, 3) := by decide +kernel
theorem dX8_count_163 : decode cX8_count 163 = .ok (.aload_n 0, 1) := by decide +kernel
theorem dX8_count_164 : decode cX8_count 164 = .ok (.getfield 34, 3) := by decide +kernel
theorem dX8_count_167 : decode cX8_count 167 = .ok (.iload_n 3, 1) := by decide +kernel
theorem dX8_count_168 : decode cX8_count 168 = .ok (.iaload, 1) := by decide +kernel
theorem dX8_count_169 : decode cX8_count 169 = .ok (.invokestatic 168, 3) := by decide +kernel
theorem dX8_count_172 : decode cX8_count 172 = .ok (.goto 13, 3) := by decide +kernel
theorem dX8_count_175 : decode cX8_count 175 = .ok (.iload 5, 2) := by decide +kernel
theorem dX8_count_177 : decode cX8_count 177 = .ok (.ifCond .eq 7, 3) := by decide +kernel
theorem dX8_count_180 : decode cX8_count 180 = .ok (.iconst 1, 1) := by decide +kernel
theorem dX8_count_181 : decode cX8_count 181 = .ok (.goto 4, 3) := by decide +kernel
theorem dX8_count_184 : decode cX8_count 184 = .ok (.iconst 0, 1) := by decide +kernel
theorem dX8_count_185 : decode cX8_count 185 = .ok (.iadd, 1) := by decide +kernel
theorem dX8_count_186 : decode cX8_count 186 = .ok (.istore_n 2, 1) := by decide +kernel
theorem dX8_count_187 : decode cX8_count 187 = .ok (.iinc 3 1, 3) := by decide +kernel
theorem dX8_count_190 : decode cX8_count 190 = .ok (.goto (-123), 3) := by decide +kernel
theorem dX8_count_193 : decode cX8_count 193 = .ok (.iload_n 2, 1) := by decide +kernel
theorem dX8_count_194 : decode cX8_count 194 = .ok (.ireturn, 1) := by decide +kernel
end
section
theorem dJ9_abs_0f7a4_0 : decode cJ9_abs_0f7a4 0 = .ok (.iload_n 0, 1) := by decide +kernel
theorem dJ9_abs_0f7a4_1 : decode cJ9_abs_0f7a4 1 = .ok (.ifCond .ge 8, 3) := by decide +kernel
theorem dJ9_abs_0f7a4_4 : decode cJ9_abs_0f7a4 4 = .ok (.iload_n 0, 1) := by decide +kernel
theorem dJ9_abs_0f7a4_5 : decode cJ9_abs_0f7a4 5 = .ok (.ineg, 1) := by decide +kernel
theorem dJ9_abs_0f7a4_6 : decode cJ9_abs_0f7a4 6 = .ok (.goto 4, 3) := by decide +kernel
theorem dJ9_abs_0f7a4_9 : decode cJ9_abs_0f7a4 9 = .ok (.iload_n 0, 1) := by decide +kernel
theorem dJ9_abs_0f7a4_10 : decode cJ9_abs_0f7a4 10 = .ok (.ireturn, 1) := by decide +kernel
theorem dJ9_max_7cf53_0 : decode cJ9_max_7cf53 0 = .ok (.iload_n 0, 1) := by decide +kernel
theorem dJ9_max_7cf53_1 : decode cJ9_max_7cf53 1 = .ok (.iload_n 1, 1) := by decide +kernel
theorem dJ9_max_7cf53_2 : decode cJ9_max_7cf53 2 = .ok (.if_icmp .lt 7, 3) := by decide +kernel
theorem dJ9_max_7cf53_5 : decode cJ9_max_7cf53 5 = .ok (.iload_n 0, 1) := by decide +kernel
theorem dJ9_max_7cf53_6 : decode cJ9_max_7cf53 6 = .ok (.goto 4, 3) := by decide +kernel
theorem dJ9_max_7cf53_9 : decode cJ9_max_7cf53 9 = .ok (.iload_n 1, 1) := by decide +kernel
theorem dJ9_max_7cf53_10 : decode cJ9_max_7cf53 10 = .ok (.ireturn, 1) := by decide +kernel
theorem dJ9_min_7cf53_0 : decode cJ9_min_7cf53 0 = .ok (.iload_n 0, 1) := by decide +kernel
theorem dJ9_min_7cf53_1 : decode cJ9_min_7cf53 1 = .ok (.iload_n 1, 1) := by decide +kernel
theorem dJ9_min_7cf53_2 : decode cJ9_min_7cf53 2 = .ok (.if_icmp .gt 7, 3) := by decide +kernel
theorem dJ9_min_7cf53_5 : decode cJ9_min_7cf53 5 = .ok (.iload_n 0, 1) := by decide +kernel
theorem dJ9_min_7cf53_6 : decode cJ9_min_7cf53 6 = .ok (.goto 4, 3) := by decide +kernel
theorem dJ9_min_7cf53_9 : decode cJ9_min_7cf53 9 = .ok (.iload_n 1, 1) := by decide +kernel
theorem dJ9_min_7cf53_10 : decode cJ9_min_7cf53 10 = .ok (.ireturn, 1) := by decide +kernel
set_option maxRecDepth 20000 in
theorem ggJ0_length_8abf5_J0_coder_7d493 : GoodIn wsJ0_length_8abf5 wsJ0_coder_7d493 := goodIn_r _ [6, 7, 8] (by decide +kernel) (by decide +kernel)
set_option maxRecDepth 20000 in
theorem gJ0_length_8abf5_J0_coder_7d493 : GoodIn wsJ0_length_8abf5 (wsV RJ0 335 RJ0 yJ0_coder_7d493 wsJ0_coder_7d493) := goodIn_app (goodIn_of _ (by decide +kernel)) ggJ0_length_8abf5_J0_coder_7d493
theorem dJ0_length_8abf5_0 : decode cJ0_length_8abf5 0 = .ok (.aload_n 0, 1) := by decide +kernel
theorem dJ0_length_8abf5_1 : decode cJ0_length_8abf5 1 = .ok (.getfield 9, 3) := by decide +kernel
theorem dJ0_length_8abf5_4 : decode cJ0_length_8abf5 4 = .ok (.arraylength, 1) := by decide +kernel
theorem dJ0_length_8abf5_5 : decode cJ0_length_8abf5 5 = .ok (.aload_n 0, 1) := by decide +kernel
theorem dJ0_length_8abf5_6 : decode cJ0_length_8abf5 6 = .ok (.invokevirtual 335, 3) := by decide +kernel
theorem dJ0_length_8abf5_9 : decode cJ0_length_8abf5 9 = .ok (.ishr, 1) := by decide +kernel
theorem dJ0_length_8abf5_10 : decode cJ0_length_8abf5 10 = .ok (.ireturn, 1) := by decide +kernel
set_option maxRecDepth 20000 in
theorem ggJ0_charAt_5068e_J0_isLatin1_aae02 : GoodIn wsJ0_charAt_5068e wsJ0_isLatin1_aae02 := goodIn_r _ [6, 7, 8] (by decide +kernel) (by decide +kernel)
set_option maxRecDepth 20000 in
theorem gJ0_charAt_5068e_J0_isLatin1_aae02 : GoodIn wsJ0_charAt_5068e (wsV RJ0 492 RJ0 yJ0_isLatin1_aae02 wsJ0_isLatin1_aae02) := goodIn_app (goodIn_of _ (by decide +kernel)) ggJ0_charAt_5068e_J0_isLatin1_aae02
set_option maxRecDepth 20000 in
theorem ggJ0_charAt_5068e_J1_charAt_3b067 : GoodIn wsJ0_charAt_5068e wsJ1_charAt_3b067 := goodIn_r _ [12, 13, 14, 5, 15, 16, 17, 18, 19, 20] (by decide +kernel) (by decide +kernel)
set_option maxRecDepth 20000 in
theorem gJ0_charAt_5068e_J1_charAt_3b067 : GoodIn wsJ0_charAt_5068e (va_wsS RJ0 495 yJ1_charAt_3b067 wsJ1_charAt_3b067) := goodIn_app (goodIn_of _ (by decide +kernel)) ggJ0_charAt_5068e_J1_charAt_3b067
set_option maxRecDepth 20000 in
theorem ggJ0_charAt_5068e_J2_charAt_3b067 : GoodIn wsJ0_charAt_5068e wsJ2_charAt_3b067 := goodIn_r _ [24, 25, 26, 23, 27, 28, 29, 30, 31, 14, 5, 15, 16, 17, 18, 19, 20, 32, 33, 34, 35, 36, 37] (by decide +kernel) (by decide +kernel)
set_option maxRecDepth 20000 in
theorem gJ0_charAt_5068e_J2_charAt_3b067 : GoodIn wsJ0_charAt_5068e (va_wsS RJ0 498 yJ2_charAt_3b067 wsJ2_charAt_3b067) := goodIn_app (goodIn_of _ (by decide +kernel)) ggJ0_charAt_5068e_J2_charAt_3b067
theorem dJ0_charAt_5068e_0 : decode cJ0_charAt_5068e 0 = .ok (.aload_n 0, 1) := by decide +kernel
theorem dJ0_charAt_5068e_1 : decode cJ0_charAt_5068e 1 = .ok (.invokevirtual 492, 3) := by decide +kernel
theorem dJ0_charAt_5068e_4 : decode cJ0_charAt_5068e 4 = .ok (.ifCond .eq 12, 3) := by decide +kernel
theorem dJ0_charAt_5068e_7 : decode cJ0_charAt_5068e 7 = .ok (.aload_n 0, 1) := by decide +kernel
theorem dJ0_charAt_5068e_8 : decode cJ0_charAt_5068e 8 = .ok (.getfield 9, 3) := by decide +kernel
theorem dJ0_charAt_5068e_11 : decode cJ0_charAt_5068e 11 = .ok (.iload_n 1, 1) := by decide +kernel
theorem dJ0_charAt_5068e_12 : decode cJ0_charAt_5068e 12 = .ok (.invokestatic 495, 3) := by decide +kernel
theorem dJ0_charAt_5068e_15 : decode cJ0_charAt_5068e 15 = .ok (.ireturn, 1) := by decide +kernel
theorem dJ0_charAt_5068e_16 : decode cJ0_charAt_5068e 16 = .ok (.aload_n 0, 1) := by decide +kernel
theorem dJ0_charAt_5068e_17 : decode cJ0_charAt_5068e 17 = .ok (.getfield 9, 3) := by decide +kernel
theorem dJ0_charAt_5068e_20 : decode cJ0_charAt_5068e 20 = .ok (.iload_n 1, 1) := by decide +kernel
theorem dJ0_charAt_5068e_21 : decode cJ0_charAt_5068e 21 = .ok (.invokestatic 498, 3) := by decide +kernel
theorem dJ0_charAt_5068e_24 : decode cJ0_charAt_5068e 24 = .ok (.ireturn, 1) := by decide +kernel
theorem dJ0_coder_7d493_0 : decode cJ0_coder_7d493 0 = .ok (.getstatic 38, 3) := by decide +kernel
theorem dJ0_coder_7d493_3 : decode cJ0_coder_7d493 3 = .ok (.ifCond .eq 10, 3) := by decide +kernel
theorem dJ0_coder_7d493_6 : decode cJ0_coder_7d493 6 = .ok (.aload_n 0, 1) := by decide +kernel
theorem dJ0_coder_7d493_7 : decode cJ0_coder_7d493 7 = .ok (.getfield 15, 3) := by decide +kernel
theorem dJ0_coder_7d493_10 : decode cJ0_coder_7d493 10 = .ok (.goto 4, 3) := by decide +kernel
theorem dJ0_coder_7d493_13 : decode cJ0_coder_7d493 13 = .ok (.iconst 1, 1) := by decide +kernel
theorem dJ0_coder_7d493_14 : decode cJ0_coder_7d493 14 = .ok (.ireturn, 1) := by decide +kernel
theorem dJ0_isLatin1_aae02_0 : decode cJ0_isLatin1_aae02 0 = .ok (.getstatic 38, 3) := by decide +kernel
theorem dJ0_isLatin1_aae02_3 : decode cJ0_isLatin1_aae02 3 = .ok (.ifCond .eq 14, 3) := by decide +kernel
theorem dJ0_isLatin1_aae02_6 : decode cJ0_isLatin1_aae02 6 = .ok (.aload_n 0, 1) := by decide +kernel
theorem dJ0_isLatin1_aae02_7 : decode cJ0_isLatin1_aae02 7 = .ok (.getfield 15, 3) := by decide +kernel
theorem dJ0_isLatin1_aae02_10 : decode cJ0_isLatin1_aae02 10 = .ok (.ifCond .ne 7, 3) := by decide +kernel
theorem dJ0_isLatin1_aae02_13 : decode cJ0_isLatin1_aae02 13 = .ok (.iconst 1, 1) := by decide +kernel
theorem dJ0_isLatin1_aae02_14 : decode cJ0_isLatin1_aae02 14 = .ok (.goto 4, 3) := by decide +kernel
theorem dJ0_isLatin1_aae02_17 : decode cJ0_isLatin1_aae02 17 = .ok (.iconst 0, 1) := by decide +kernel
theorem dJ0_isLatin1_aae02_18 : decode cJ0_isLatin1_aae02 18 = .ok (.ireturn, 1) := by decide +kernel
set_option maxRecDepth 20000 in
theorem ggJ0_checkIndex_df160_J3_checkIndex_8e157 : GoodIn wsJ0_checkIndex_df160 wsJ3_checkIndex_8e157 := goodIn_r _ [5] (by decide +kernel) (by decide +kernel)
set_option maxRecDepth 20000 in
theorem gJ0_checkIndex_df160_J3_checkIndex_8e157 : GoodIn wsJ0_checkIndex_df160 (va_wsS RJ0 1059 yJ3_checkIndex_8e157 wsJ3_checkIndex_8e157) := goodIn_app (goodIn_of _ (by decide +kernel)) ggJ0_checkIndex_df160_J3_checkIndex_8e157
theorem dJ0_checkIndex_df160_0 : decode cJ0_checkIndex_df160 0 = .ok (.iload_n 0, 1) := by decide +kernel
theorem dJ0_checkIndex_df160_1 : decode cJ0_checkIndex_df160 1 = .ok (.iload_n 1, 1) := by decide +kernel
theorem dJ0_checkIndex_df160_2 : decode cJ0_checkIndex_df160 2 = .ok (.getstatic 1053, 3) := by decide +kernel
theorem dJ0_checkIndex_df160_5 : decode cJ0_checkIndex_df160 5 = .ok (.invokestatic 1059, 3) := by decide +kernel
theorem dJ0_checkIndex_df160_8 : decode cJ0_checkIndex_df160 8 = .ok (.pop, 1) := by decide +kernel
theorem dJ0_checkIndex_df160_9 : decode cJ0_checkIndex_df160 9 = .ok (.return_, 1) := by decide +kernel
set_option maxRecDepth 20000 in
theorem ggJ1_charAt_3b067_J0_checkIndex_df160 : GoodIn wsJ1_charAt_3b067 wsJ0_checkIndex_df160 := goodIn_r _ [4, 5, 6, 7, 8, 9] (by decide +kernel) (by decide +kernel)
set_option maxRecDepth 20000 in
theorem gJ1_charAt_3b067_J0_checkIndex_df160 : GoodIn wsJ1_charAt_3b067 (va_wsS RJ1 9 yJ0_checkIndex_df160 wsJ0_checkIndex_df160) := goodIn_app (goodIn_of _ (by decide +kernel)) ggJ1_charAt_3b067_J0_checkIndex_df160
theorem dJ1_charAt_3b067_0 : decode cJ1_charAt_3b067 0 = .ok (.iload_n 1, 1) := by decide +kernel
theorem dJ1_charAt_3b067_1 : decode cJ1_charAt_3b067 1 = .ok (.aload_n 0, 1) := by decide +kernel
theorem dJ1_charAt_3b067_2 : decode cJ1_charAt_3b067 2 = .ok (.arraylength, 1) := by decide +kernel
theorem dJ1_charAt_3b067_3 : decode cJ1_charAt_3b067 3 = .ok (.invokestatic 9, 3) := by decide +kernel
theorem dJ1_charAt_3b067_6 : decode cJ1_charAt_3b067 6 = .ok (.aload_n 0, 1) := by decide +kernel
theorem dJ1_charAt_3b067_7 : decode cJ1_charAt_3b067 7 = .ok (.iload_n 1, 1) := by decide +kernel
theorem dJ1_charAt_3b067_8 : decode cJ1_charAt_3b067 8 = .ok (.baload, 1) := by decide +kernel
theorem dJ1_charAt_3b067_9 : decode cJ1_charAt_3b067 9 = .ok (.sipush 255, 3) := by decide +kernel
theorem dJ1_charAt_3b067_12 : decode cJ1_charAt_3b067 12 = .ok (.iand, 1) := by decide +kernel
theorem dJ1_charAt_3b067_13 : decode cJ1_charAt_3b067 13 = .ok (.i2c, 1) := by decide +kernel
theorem dJ1_charAt_3b067_14 : decode cJ1_charAt_3b067 14 = .ok (.ireturn, 1) := by decide +kernel
set_option maxRecDepth 20000 in
theorem ggJ2_getChar_3b067_J2_length_9d52b : GoodIn wsJ2_getChar_3b067 wsJ2_length_9d52b := goodIn_r _ [7] (by decide +kernel) (by decide +kernel)
set_option maxRecDepth 20000 in
theorem gJ2_getChar_3b067_J2_length_9d52b : GoodIn wsJ2_getChar_3b067 (va_wsS RJ2 48 yJ2_length_9d52b wsJ2_length_9d52b) := goodIn_app (goodIn_of _ (by decide +kernel)) ggJ2_getChar_3b067_J2_length_9d52b
theorem dJ2_getChar_3b067_0 : decode cJ2_getChar_3b067 0 = .ok (.getstatic 44, 3) := by decide +kernel
theorem dJ2_getChar_3b067_3 : decode cJ2_getChar_3b067 3 = .ok (.ifCond .ne 25, 3) := by decide +kernel
theorem dJ2_getChar_3b067_6 : decode cJ2_getChar_3b067 6 = .ok (.iload_n 1, 1) := by decide +kernel
theorem dJ2_getChar_3b067_7 : decode cJ2_getChar_3b067 7 = .ok (.ifCond .lt 11, 3) := by decide +kernel
theorem dJ2_getChar_3b067_10 : decode cJ2_getChar_3b067 10 = .ok (.iload_n 1, 1) := by decide +kernel
theorem dJ2_getChar_3b067_11 : decode cJ2_getChar_3b067 11 = .ok (.aload_n 0, 1) := by decide +kernel
theorem dJ2_getChar_3b067_12 : decode cJ2_getChar_3b067 12 = .ok (.invokestatic 48, 3) := by decide +kernel
theorem dJ2_getChar_3b067_15 : decode cJ2_getChar_3b067 15 = .ok (.if_icmp .lt 13, 3) := by decide +kernel
theorem dJ2_getChar_3b067_18 : decode cJ2_getChar_3b067 18 = .ok (.new 52, 3) := by decide +kernel
theorem dJ2_getChar_3b067_21 : decode cJ2_getChar_3b067 21 = .ok (.dup, 1) := by decide +kernel
theorem dJ2_getChar_3b067_22 : decode cJ2_getChar_3b067 22 = .ok (.ldc 54, 2) := by decide +kernel
theorem dJ2_getChar_3b067_24 : decode cJ2_getChar_3b067 24 = .ok (.invokespecial 56, 3) := by decide +kernel
theorem dJ2_getChar_3b067_27 : decode cJ2_getChar_3b067 27 = .ok (.athrow, 1) := by decide +kernel
theorem dJ2_getChar_3b067_28 : decode cJ2_getChar_3b067 28 = .ok (.iload_n 1, 1) := by decide +kernel
theorem dJ2_getChar_3b067_29 : decode cJ2_getChar_3b067 29 = .ok (.iconst 1, 1) := by decide +kernel
theorem dJ2_getChar_3b067_30 : decode cJ2_getChar_3b067 30 = .ok (.ishl, 1) := by decide +kernel
theorem dJ2_getChar_3b067_31 : decode cJ2_getChar_3b067 31 = .ok (.istore_n 1, 1) := by decide +kernel
theorem dJ2_getChar_3b067_32 : decode cJ2_getChar_3b067 32 = .ok (.aload_n 0, 1) := by decide +kernel
theorem dJ2_getChar_3b067_33 : decode cJ2_getChar_3b067 33 = .ok (.iload_n 1, 1) := by decide +kernel
theorem dJ2_getChar_3b067_34 : decode cJ2_getChar_3b067 34 = .ok (.iinc 1 1, 3) := by decide +kernel
theorem dJ2_getChar_3b067_37 : decode cJ2_getChar_3b067 37 = .ok (.baload, 1) := by decide +kernel
theorem dJ2_getChar_3b067_38 : decode cJ2_getChar_3b067 38 = .ok (.sipush 255, 3) := by decide +kernel
theorem dJ2_getChar_3b067_41 : decode cJ2_getChar_3b067 41 = .ok (.iand, 1) := by decide +kernel
theorem dJ2_getChar_3b067_42 : decode cJ2_getChar_3b067 42 = .ok (.getstatic 59, 3) := by decide +kernel
theorem dJ2_getChar_3b067_45 : decode cJ2_getChar_3b067 45 = .ok (.ishl, 1) := by decide +kernel
theorem dJ2_getChar_3b067_46 : decode cJ2_getChar_3b067 46 = .ok (.aload_n 0, 1) := by decide +kernel
theorem dJ2_getChar_3b067_47 : decode cJ2_getChar_3b067 47 = .ok (.iload_n 1, 1) := by decide +kernel
theorem dJ2_getChar_3b067_48 : decode cJ2_getChar_3b067 48 = .ok (.baload, 1) := by decide +kernel
theorem dJ2_getChar_3b067_49 : decode cJ2_getChar_3b067 49 = .ok (.sipush 255, 3) := by decide +kernel
theorem dJ2_getChar_3b067_52 : decode cJ2_getChar_3b067 52 = .ok (.iand, 1) := by decide +kernel
theorem dJ2_getChar_3b067_53 : decode cJ2_getChar_3b067 53 = .ok (.getstatic 63, 3) := by decide +kernel
theorem dJ2_getChar_3b067_56 : decode cJ2_getChar_3b067 56 = .ok (.ishl, 1) := by decide +kernel
theorem dJ2_getChar_3b067_57 : decode cJ2_getChar_3b067 57 = .ok (.ior, 1) := by decide +kernel
theorem dJ2_getChar_3b067_58 : decode cJ2_getChar_3b067 58 = .ok (.i2c, 1) := by decide +kernel
theorem dJ2_getChar_3b067_59 : decode cJ2_getChar_3b067 59 = .ok (.ireturn, 1) := by decide +kernel
theorem dJ2_length_9d52b_0 : decode cJ2_length_9d52b 0 = .ok (.aload_n 0, 1) := by decide +kernel
theorem dJ2_length_9d52b_1 : decode cJ2_length_9d52b 1 = .ok (.arraylength, 1) := by decide +kernel
theorem dJ2_length_9d52b_2 : decode cJ2_length_9d52b 2 = .ok (.iconst 1, 1) := by decide +kernel
theorem dJ2_length_9d52b_3 : decode cJ2_length_9d52b 3 = .ok (.ishr, 1) := by decide +kernel
theorem dJ2_length_9d52b_4 : decode cJ2_length_9d52b 4 = .ok (.ireturn, 1) := by decide +kernel
set_option maxRecDepth 20000 in
theorem ggJ2_charAt_3b067_J2_checkIndex_2214a : GoodIn wsJ2_charAt_3b067 wsJ2_checkIndex_2214a := goodIn_r _ [4, 5, 6, 3, 7, 8, 9, 10, 11, 12, 13, 14, 15, 16] (by decide +kernel) (by decide +kernel)
set_option maxRecDepth 20000 in
theorem gJ2_charAt_3b067_J2_checkIndex_2214a : GoodIn wsJ2_charAt_3b067 (va_wsS RJ2 67 yJ2_checkIndex_2214a wsJ2_checkIndex_2214a) := goodIn_app (goodIn_of _ (by decide +kernel)) ggJ2_charAt_3b067_J2_checkIndex_2214a
set_option maxRecDepth 20000 in
theorem ggJ2_charAt_3b067_J2_getChar_3b067 : GoodIn wsJ2_charAt_3b067 wsJ2_getChar_3b067 := goodIn_r _ [19, 20, 21, 22, 5, 6, 3, 7] (by decide +kernel) (by decide +kernel)
set_option maxRecDepth 20000 in
theorem gJ2_charAt_3b067_J2_getChar_3b067 : GoodIn wsJ2_charAt_3b067 (va_wsS RJ2 71 yJ2_getChar_3b067 wsJ2_getChar_3b067) := goodIn_app (goodIn_of _ (by decide +kernel)) ggJ2_charAt_3b067_J2_getChar_3b067
theorem dJ2_charAt_3b067_0 : decode cJ2_charAt_3b067 0 = .ok (.iload_n 1, 1) := by decide +kernel
theorem dJ2_charAt_3b067_1 : decode cJ2_charAt_3b067 1 = .ok (.aload_n 0, 1) := by decide +kernel
theorem dJ2_charAt_3b067_2 : decode cJ2_charAt_3b067 2 = .ok (.invokestatic 67, 3) := by decide +kernel
theorem dJ2_charAt_3b067_5 : decode cJ2_charAt_3b067 5 = .ok (.aload_n 0, 1) := by decide +kernel
theorem dJ2_charAt_3b067_6 : decode cJ2_charAt_3b067 6 = .ok (.iload_n 1, 1) := by decide +kernel
theorem dJ2_charAt_3b067_7 : decode cJ2_charAt_3b067 7 = .ok (.invokestatic 71, 3) := by decide +kernel
theorem dJ2_charAt_3b067_10 : decode cJ2_charAt_3b067 10 = .ok (.ireturn, 1) := by decide +kernel
set_option maxRecDepth 20000 in
theorem ggJ2_checkIndex_2214a_J2_length_9d52b : GoodIn wsJ2_checkIndex_2214a wsJ2_length_9d52b := goodIn_r _ [4] (by decide +kernel) (by decide +kernel)
set_option maxRecDepth 20000 in
theorem gJ2_checkIndex_2214a_J2_length_9d52b : GoodIn wsJ2_checkIndex_2214a (va_wsS RJ2 48 yJ2_length_9d52b wsJ2_length_9d52b) := goodIn_app (goodIn_of _ (by decide +kernel)) ggJ2_checkIndex_2214a_J2_length_9d52b
set_option maxRecDepth 20000 in
theorem ggJ2_checkIndex_2214a_J0_checkIndex_df160 : GoodIn wsJ2_checkIndex_2214a wsJ0_checkIndex_df160 := goodIn_r _ [8, 9, 10, 11, 12, 13] (by decide +kernel) (by decide +kernel)
set_option maxRecDepth 20000 in
theorem gJ2_checkIndex_2214a_J0_checkIndex_df160 : GoodIn wsJ2_checkIndex_2214a (va_wsS RJ2 414 yJ0_checkIndex_df160 wsJ0_checkIndex_df160) := goodIn_app (goodIn_of _ (by decide +kernel)) ggJ2_checkIndex_2214a_J0_checkIndex_df160
theorem dJ2_checkIndex_2214a_0 : decode cJ2_checkIndex_2214a 0 = .ok (.iload_n 0, 1) := by decide +kernel
theorem dJ2_checkIndex_2214a_1 : decode cJ2_checkIndex_2214a 1 = .ok (.aload_n 1, 1) := by decide +kernel
theorem dJ2_checkIndex_2214a_2 : decode cJ2_checkIndex_2214a 2 = .ok (.invokestatic 48, 3) := by decide +kernel
theorem dJ2_checkIndex_2214a_5 : decode cJ2_checkIndex_2214a 5 = .ok (.invokestatic 414, 3) := by decide +kernel
theorem dJ2_checkIndex_2214a_8 : decode cJ2_checkIndex_2214a 8 = .ok (.return_, 1) := by decide +kernel
theorem dJxa1e45_init_da8c8_0 : decode cJxa1e45_init_da8c8 0 = .ok (.aload_n 0, 1) := by decide +kernel
theorem dJxa1e45_init_da8c8_1 : decode cJxa1e45_init_da8c8 1 = .ok (.invokespecial 1, 3) := by decide +kernel
theorem dJxa1e45_init_da8c8_4 : decode cJxa1e45_init_da8c8 4 = .ok (.return_, 1) := by decide +kernel
set_option maxRecDepth 20000 in
theorem ggJxc12de_init_da8c8_Jxa1e45_init_da8c8 : GoodIn wsJxc12de_init_da8c8 wsJxa1e45_init_da8c8 := goodIn_r _ [5, 6, 7, 8] (by decide +kernel) (by decide +kernel)
set_option maxRecDepth 20000 in
theorem gJxc12de_init_da8c8_Jxa1e45_init_da8c8 : GoodIn wsJxc12de_init_da8c8 (wsJxa1e45_init_da8c8) := ggJxc12de_init_da8c8_Jxa1e45_init_da8c8
theorem dJxc12de_init_da8c8_0 : decode cJxc12de_init_da8c8 0 = .ok (.aload_n 0, 1) := by decide +kernel
theorem dJxc12de_init_da8c8_1 : decode cJxc12de_init_da8c8 1 = .ok (.invokespecial 1, 3) := by decide +kernel
theorem dJxc12de_init_da8c8_4 : decode cJxc12de_init_da8c8 4 = .ok (.aload_n 0, 1) := by decide +kernel
theorem dJxc12de_init_da8c8_5 : decode cJxc12de_init_da8c8 5 = .ok (.iconst 0, 1) := by decide +kernel
theorem dJxc12de_init_da8c8_6 : decode cJxc12de_init_da8c8 6 = .ok (.putfield 7, 3) := by decide +kernel
theorem dJxc12de_init_da8c8_9 : decode cJxc12de_init_da8c8 9 = .ok (.return_, 1) := by decide +kernel
set_option maxRecDepth 20000 in
theorem ggJx4a65c_init_da8c8_Jxc12de_init_da8c8 : GoodIn wsJx4a65c_init_da8c8 wsJxc12de_init_da8c8 := goodIn_r _ [6, 7, 8, 9, 10, 11, 12, 13, 14, 15, 16, 17] (by decide +kernel) (by decide +kernel)
set_option maxRecDepth 20000 in
theorem gJx4a65c_init_da8c8_Jxc12de_init_da8c8 : GoodIn wsJx4a65c_init_da8c8 (wsJxc12de_init_da8c8) := ggJx4a65c_init_da8c8_Jxc12de_init_da8c8
theorem dJx4a65c_init_da8c8_0 : decode cJx4a65c_init_da8c8 0 = .ok (.aload_n 0, 1) := by decide +kernel
theorem dJx4a65c_init_da8c8_1 : decode cJx4a65c_init_da8c8 1 = .ok (.invokespecial 1, 3) := by decide +kernel
theorem dJx4a65c_init_da8c8_4 : decode cJx4a65c_init_da8c8 4 = .ok (.aload_n 0, 1) := by decide +kernel
theorem dJx4a65c_init_da8c8_5 : decode cJx4a65c_init_da8c8 5 = .ok (.getstatic 39, 3) := by decide +kernel
theorem dJx4a65c_init_da8c8_8 : decode cJx4a65c_init_da8c8 8 = .ok (.putfield 9, 3) := by decide +kernel
theorem dJx4a65c_init_da8c8_11 : decode cJx4a65c_init_da8c8 11 = .ok (.return_, 1) := by decide +kernel
set_option maxRecDepth 20000 in
theorem ggJx4a65c_grow_92f84_J8_newLength_cabcc : GoodIn wsJx4a65c_grow_92f84 wsJ8_newLength_cabcc := goodIn_r _ [11, 12, 4, 5, 6, 13, 14, 15, 10, 16] (by decide +kernel) (by decide +kernel)
set_option maxRecDepth 20000 in
theorem gJx4a65c_grow_92f84_J8_newLength_cabcc : GoodIn wsJx4a65c_grow_92f84 (va_wsS RJx4a65c 73 yJ8_newLength_cabcc wsJ8_newLength_cabcc) := goodIn_app (goodIn_of _ (by decide +kernel)) ggJx4a65c_grow_92f84_J8_newLength_cabcc
set_option maxRecDepth 20000 in
theorem ggJx4a65c_grow_92f84_J7_copyOf_1904c : GoodIn wsJx4a65c_grow_92f84 wsJ7_copyOf_1904c := goodIn_r _ [20, 21, 22, 23, 24, 25, 26, 19, 27, 28, 29, 30, 31, 5, 32, 33, 34, 35, 36] (by decide +kernel) (by decide +kernel)
set_option maxRecDepth 20000 in
theorem gJx4a65c_grow_92f84_J7_copyOf_1904c : GoodIn wsJx4a65c_grow_92f84 (va_wsS RJx4a65c 66 yJ7_copyOf_1904c wsJ7_copyOf_1904c) := goodIn_app (goodIn_of _ (by decide +kernel)) ggJx4a65c_grow_92f84_J7_copyOf_1904c
theorem dJx4a65c_grow_92f84_0 : decode cJx4a65c_grow_92f84 0 = .ok (.aload_n 0, 1) := by decide +kernel
theorem dJx4a65c_grow_92f84_1 : decode cJx4a65c_grow_92f84 1 = .ok (.getfield 9, 3) := by decide +kernel
theorem dJx4a65c_grow_92f84_4 : decode cJx4a65c_grow_92f84 4 = .ok (.arraylength, 1) := by decide +kernel
theorem dJx4a65c_grow_92f84_5 : decode cJx4a65c_grow_92f84 5 = .ok (.istore_n 2, 1) := by decide +kernel
theorem dJx4a65c_grow_92f84_6 : decode cJx4a65c_grow_92f84 6 = .ok (.iload_n 2, 1) := by decide +kernel
theorem dJx4a65c_grow_92f84_7 : decode cJx4a65c_grow_92f84 7 = .ok (.ifCond .gt 13, 3) := by decide +kernel
theorem dJx4a65c_grow_92f84_10 : decode cJx4a65c_grow_92f84 10 = .ok (.aload_n 0, 1) := by decide +kernel
theorem dJx4a65c_grow_92f84_11 : decode cJx4a65c_grow_92f84 11 = .ok (.getfield 9, 3) := by decide +kernel
theorem dJx4a65c_grow_92f84_14 : decode cJx4a65c_grow_92f84 14 = .ok (.getstatic 39, 3) := by decide +kernel
theorem dJx4a65c_grow_92f84_17 : decode cJx4a65c_grow_92f84 17 = .ok (.if_acmp .eq 28, 3) := by decide +kernel
theorem dJx4a65c_grow_92f84_20 : decode cJx4a65c_grow_92f84 20 = .ok (.iload_n 2, 1) := by decide +kernel
theorem dJx4a65c_grow_92f84_21 : decode cJx4a65c_grow_92f84 21 = .ok (.iload_n 1, 1) := by decide +kernel
theorem dJx4a65c_grow_92f84_22 : decode cJx4a65c_grow_92f84 22 = .ok (.iload_n 2, 1) := by decide +kernel
theorem dJx4a65c_grow_92f84_23 : decode cJx4a65c_grow_92f84 23 = .ok (.isub, 1) := by decide +kernel
theorem dJx4a65c_grow_92f84_24 : decode cJx4a65c_grow_92f84 24 = .ok (.iload_n 2, 1) := by decide +kernel
theorem dJx4a65c_grow_92f84_25 : decode cJx4a65c_grow_92f84 25 = .ok (.iconst 1, 1) := by decide +kernel
theorem dJx4a65c_grow_92f84_26 : decode cJx4a65c_grow_92f84 26 = .ok (.ishr, 1) := by decide +kernel
theorem dJx4a65c_grow_92f84_27 : decode cJx4a65c_grow_92f84 27 = .ok (.invokestatic 73, 3) := by decide +kernel
theorem dJx4a65c_grow_92f84_30 : decode cJx4a65c_grow_92f84 30 = .ok (.istore_n 3, 1) := by decide +kernel
theorem dJx4a65c_grow_92f84_31 : decode cJx4a65c_grow_92f84 31 = .ok (.aload_n 0, 1) := by decide +kernel
theorem dJx4a65c_grow_92f84_32 : decode cJx4a65c_grow_92f84 32 = .ok (.aload_n 0, 1) := by decide +kernel
theorem dJx4a65c_grow_92f84_33 : decode cJx4a65c_grow_92f84 33 = .ok (.getfield 9, 3) := by decide +kernel
theorem dJx4a65c_grow_92f84_36 : decode cJx4a65c_grow_92f84 36 = .ok (.iload_n 3, 1) := by decide +kernel
theorem dJx4a65c_grow_92f84_37 : decode cJx4a65c_grow_92f84 37 = .ok (.invokestatic 66, 3) := by decide +kernel
theorem dJx4a65c_grow_92f84_40 : decode cJx4a65c_grow_92f84 40 = .ok (.dup_x1, 1) := by decide +kernel
theorem dJx4a65c_grow_92f84_41 : decode cJx4a65c_grow_92f84 41 = .ok (.putfield 9, 3) := by decide +kernel
theorem dJx4a65c_grow_92f84_44 : decode cJx4a65c_grow_92f84 44 = .ok (.areturn, 1) := by decide +kernel
theorem dJx4a65c_grow_92f84_45 : decode cJx4a65c_grow_92f84 45 = .ok (.aload_n 0, 1) := by decide +kernel
theorem dJx4a65c_grow_92f84_46 : decode cJx4a65c_grow_92f84 46 = .ok (.bipush 10, 2) := by decide +kernel
theorem dJx4a65c_grow_92f84_48 : decode cJx4a65c_grow_92f84 48 = .ok (.iload_n 1, 1) := by decide +kernel
theorem dJx4a65c_grow_92f84_49 : decode cJx4a65c_grow_92f84 49 = .ok (.invokestatic 79, 3) := by decide +kernel
theorem dJx4a65c_grow_92f84_52 : decode cJx4a65c_grow_92f84 52 = .ok (.anewarray 7, 3) := by decide +kernel
theorem dJx4a65c_grow_92f84_55 : decode cJx4a65c_grow_92f84 55 = .ok (.dup_x1, 1) := by decide +kernel
theorem dJx4a65c_grow_92f84_56 : decode cJx4a65c_grow_92f84 56 = .ok (.putfield 9, 3) := by decide +kernel
theorem dJx4a65c_grow_92f84_59 : decode cJx4a65c_grow_92f84 59 = .ok (.areturn, 1) := by decide +kernel
set_option maxRecDepth 20000 in
theorem ggJx4a65c_grow_d5877_Jx4a65c_grow_92f84 : GoodIn wsJx4a65c_grow_d5877 wsJx4a65c_grow_92f84 := goodIn_r _ [6, 7, 8, 9, 10, 11, 12, 13, 14, 15, 16, 17, 18, 19, 20, 21, 22, 23, 24, 25, 26, 27, 28, 29, 30, 31, 32, 33, 34, 35, 36, 37, 38, 39, 40, 41, 42, 43, 44, 45] (by decide +kernel) (by decide +kernel)
set_option maxRecDepth 20000 in
theorem gJx4a65c_grow_d5877_Jx4a65c_grow_92f84 : GoodIn wsJx4a65c_grow_d5877 (wsV RJx4a65c 69 RJx4a65c yJx4a65c_grow_92f84 wsJx4a65c_grow_92f84) := goodIn_app (goodIn_of _ (by decide +kernel)) ggJx4a65c_grow_d5877_Jx4a65c_grow_92f84
theorem dJx4a65c_grow_d5877_0 : decode cJx4a65c_grow_d5877 0 = .ok (.aload_n 0, 1) := by decide +kernel
theorem dJx4a65c_grow_d5877_1 : decode cJx4a65c_grow_d5877 1 = .ok (.aload_n 0, 1) := by decide +kernel
theorem dJx4a65c_grow_d5877_2 : decode cJx4a65c_grow_d5877 2 = .ok (.getfield 48, 3) := by decide +kernel
theorem dJx4a65c_grow_d5877_5 : decode cJx4a65c_grow_d5877 5 = .ok (.iconst 1, 1) := by decide +kernel
theorem dJx4a65c_grow_d5877_6 : decode cJx4a65c_grow_d5877 6 = .ok (.iadd, 1) := by decide +kernel
theorem dJx4a65c_grow_d5877_7 : decode cJx4a65c_grow_d5877 7 = .ok (.invokevirtual 69, 3) := by decide +kernel
theorem dJx4a65c_grow_d5877_10 : decode cJx4a65c_grow_d5877 10 = .ok (.areturn, 1) := by decide +kernel
theorem dJx4a65c_size_8abf5_0 : decode cJx4a65c_size_8abf5 0 = .ok (.aload_n 0, 1) := by decide +kernel
theorem dJx4a65c_size_8abf5_1 : decode cJx4a65c_size_8abf5 1 = .ok (.getfield 48, 3) := by decide +kernel
theorem dJx4a65c_size_8abf5_4 : decode cJx4a65c_size_8abf5 4 = .ok (.ireturn, 1) := by decide +kernel
theorem dJx4a65c_elementData_915e3_0 : decode cJx4a65c_elementData_915e3 0 = .ok (.aload_n 0, 1) := by decide +kernel
theorem dJx4a65c_elementData_915e3_1 : decode cJx4a65c_elementData_915e3 1 = .ok (.getfield 9, 3) := by decide +kernel
theorem dJx4a65c_elementData_915e3_4 : decode cJx4a65c_elementData_915e3 4 = .ok (.iload_n 1, 1) := by decide +kernel
theorem dJx4a65c_elementData_915e3_5 : decode cJx4a65c_elementData_915e3 5 = .ok (.aaload, 1) := by decide +kernel
theorem dJx4a65c_elementData_915e3_6 : decode cJx4a65c_elementData_915e3 6 = .ok (.areturn, 1) := by decide +kernel
set_option maxRecDepth 20000 in
theorem ggJx4a65c_get_915e3_J15_checkIndex_7cf53 : GoodIn wsJx4a65c_get_915e3 wsJ15_checkIndex_7cf53 := goodIn_r _ [5, 6, 7, 8, 9] (by decide +kernel) (by decide +kernel)
set_option maxRecDepth 20000 in
theorem gJx4a65c_get_915e3_J15_checkIndex_7cf53 : GoodIn wsJx4a65c_get_915e3 (va_wsS RJx4a65c 118 yJ15_checkIndex_7cf53 wsJ15_checkIndex_7cf53) := goodIn_app (goodIn_of _ (by decide +kernel)) ggJx4a65c_get_915e3_J15_checkIndex_7cf53
set_option maxRecDepth 20000 in
theorem ggJx4a65c_get_915e3_Jx4a65c_elementData_915e3 : GoodIn wsJx4a65c_get_915e3 wsJx4a65c_elementData_915e3 := goodIn_r _ [14, 15, 16, 17, 18] (by decide +kernel) (by decide +kernel)
set_option maxRecDepth 20000 in
theorem gJx4a65c_get_915e3_Jx4a65c_elementData_915e3 : GoodIn wsJx4a65c_get_915e3 (wsV RJx4a65c 123 RJx4a65c yJx4a65c_elementData_915e3 wsJx4a65c_elementData_915e3) := goodIn_app (goodIn_of _ (by decide +kernel)) ggJx4a65c_get_915e3_Jx4a65c_elementData_915e3
theorem dJx4a65c_get_915e3_0 : decode cJx4a65c_get_915e3 0 = .ok (.iload_n 1, 1) := by decide +kernel
theorem dJx4a65c_get_915e3_1 : decode cJx4a65c_get_915e3 1 = .ok (.aload_n 0, 1) := by decide +kernel
theorem dJx4a65c_get_915e3_2 : decode cJx4a65c_get_915e3 2 = .ok (.getfield 48, 3) := by decide +kernel
theorem dJx4a65c_get_915e3_5 : decode cJx4a65c_get_915e3 5 = .ok (.invokestatic 118, 3) := by decide +kernel
theorem dJx4a65c_get_915e3_8 : decode cJx4a65c_get_915e3 8 = .ok (.pop, 1) := by decide +kernel
theorem dJx4a65c_get_915e3_9 : decode cJx4a65c_get_915e3 9 = .ok (.aload_n 0, 1) := by decide +kernel
theorem dJx4a65c_get_915e3_10 : decode cJx4a65c_get_915e3 10 = .ok (.iload_n 1, 1) := by decide +kernel
theorem dJx4a65c_get_915e3_11 : decode cJx4a65c_get_915e3 11 = .ok (.invokevirtual 123, 3) := by decide +kernel
theorem dJx4a65c_get_915e3_14 : decode cJx4a65c_get_915e3 14 = .ok (.areturn, 1) := by decide +kernel
set_option maxRecDepth 20000 in
theorem ggJx4a65c_add_72be8_Jx4a65c_grow_d5877 : GoodIn wsJx4a65c_add_72be8 wsJx4a65c_grow_d5877 := goodIn_r _ [6, 1, 7, 8, 9, 5, 10, 11, 12, 13, 14, 15, 16, 17, 18, 19, 20, 21, 22, 23, 24, 25, 26, 27, 28, 29, 30, 31, 32, 33, 34, 35, 36, 37, 38, 39, 40, 41, 42, 43, 44, 45, 46, 47, 48, 49] (by decide +kernel) (by decide +kernel)
set_option maxRecDepth 20000 in
theorem gJx4a65c_add_72be8_Jx4a65c_grow_d5877 : GoodIn wsJx4a65c_add_72be8 (wsV RJx4a65c 129 RJx4a65c yJx4a65c_grow_d5877 wsJx4a65c_grow_d5877) := goodIn_app (goodIn_of _ (by decide +kernel)) ggJx4a65c_add_72be8_Jx4a65c_grow_d5877
theorem dJx4a65c_add_72be8_0 : decode cJx4a65c_add_72be8 0 = .ok (.iload_n 3, 1) := by decide +kernel
theorem dJx4a65c_add_72be8_1 : decode cJx4a65c_add_72be8 1 = .ok (.aload_n 2, 1) := by decide +kernel
theorem dJx4a65c_add_72be8_2 : decode cJx4a65c_add_72be8 2 = .ok (.arraylength, 1) := by decide +kernel
theorem dJx4a65c_add_72be8_3 : decode cJx4a65c_add_72be8 3 = .ok (.if_icmp .ne 8, 3) := by decide +kernel
theorem dJx4a65c_add_72be8_6 : decode cJx4a65c_add_72be8 6 = .ok (.aload_n 0, 1) := by decide +kernel
theorem dJx4a65c_add_72be8_7 : decode cJx4a65c_add_72be8 7 = .ok (.invokevirtual 129, 3) := by decide +kernel
theorem dJx4a65c_add_72be8_10 : decode cJx4a65c_add_72be8 10 = .ok (.astore_n 2, 1) := by decide +kernel
theorem dJx4a65c_add_72be8_11 : decode cJx4a65c_add_72be8 11 = .ok (.aload_n 2, 1) := by decide +kernel
theorem dJx4a65c_add_72be8_12 : decode cJx4a65c_add_72be8 12 = .ok (.iload_n 3, 1) := by decide +kernel
theorem dJx4a65c_add_72be8_13 : decode cJx4a65c_add_72be8 13 = .ok (.aload_n 1, 1) := by decide +kernel
theorem dJx4a65c_add_72be8_14 : decode cJx4a65c_add_72be8 14 = .ok (.aastore, 1) := by decide +kernel
theorem dJx4a65c_add_72be8_15 : decode cJx4a65c_add_72be8 15 = .ok (.aload_n 0, 1) := by decide +kernel
theorem dJx4a65c_add_72be8_16 : decode cJx4a65c_add_72be8 16 = .ok (.iload_n 3, 1) := by decide +kernel
theorem dJx4a65c_add_72be8_17 : decode cJx4a65c_add_72be8 17 = .ok (.iconst 1, 1) := by decide +kernel
theorem dJx4a65c_add_72be8_18 : decode cJx4a65c_add_72be8 18 = .ok (.iadd, 1) := by decide +kernel
theorem dJx4a65c_add_72be8_19 : decode cJx4a65c_add_72be8 19 = .ok (.putfield 48, 3) := by decide +kernel
theorem dJx4a65c_add_72be8_22 : decode cJx4a65c_add_72be8 22 = .ok (.return_, 1) := by decide +kernel
set_option maxRecDepth 20000 in
theorem ggJx4a65c_add_9ea2d_Jx4a65c_add_72be8 : GoodIn wsJx4a65c_add_9ea2d wsJx4a65c_add_72be8 := goodIn_r _ [9, 4, 10, 11, 12, 8, 13, 14, 15, 16, 17, 3, 18, 19, 20, 21, 22, 23, 24, 25, 26, 27, 28, 29, 30, 31, 32, 33, 34, 35, 36, 37, 38, 39, 40, 41, 42, 43, 44, 45, 46, 47, 48, 49, 50, 51, 52, 53, 54, 55] (by decide +kernel) (by decide +kernel)
set_option maxRecDepth 20000 in
theorem gJx4a65c_add_9ea2d_Jx4a65c_add_72be8 : GoodIn wsJx4a65c_add_9ea2d (wsV RJx4a65c 131 RJx4a65c yJx4a65c_add_72be8 wsJx4a65c_add_72be8) := goodIn_app (goodIn_of _ (by decide +kernel)) ggJx4a65c_add_9ea2d_Jx4a65c_add_72be8
theorem dJx4a65c_add_9ea2d_0 : decode cJx4a65c_add_9ea2d 0 = .ok (.aload_n 0, 1) := by decide +kernel
theorem dJx4a65c_add_9ea2d_1 : decode cJx4a65c_add_9ea2d 1 = .ok (.dup, 1) := by decide +kernel
theorem dJx4a65c_add_9ea2d_2 : decode cJx4a65c_add_9ea2d 2 = .ok (.getfield 63, 3) := by decide +kernel
theorem dJx4a65c_add_9ea2d_5 : decode cJx4a65c_add_9ea2d 5 = .ok (.iconst 1, 1) := by decide +kernel
theorem dJx4a65c_add_9ea2d_6 : decode cJx4a65c_add_9ea2d 6 = .ok (.iadd, 1) := by decide +kernel
theorem dJx4a65c_add_9ea2d_7 : decode cJx4a65c_add_9ea2d 7 = .ok (.putfield 63, 3) := by decide +kernel
theorem dJx4a65c_add_9ea2d_10 : decode cJx4a65c_add_9ea2d 10 = .ok (.aload_n 0, 1) := by decide +kernel
theorem dJx4a65c_add_9ea2d_11 : decode cJx4a65c_add_9ea2d 11 = .ok (.aload_n 1, 1) := by decide +kernel
theorem dJx4a65c_add_9ea2d_12 : decode cJx4a65c_add_9ea2d 12 = .ok (.aload_n 0, 1) := by decide +kernel
theorem dJx4a65c_add_9ea2d_13 : decode cJx4a65c_add_9ea2d 13 = .ok (.getfield 9, 3) := by decide +kernel
theorem dJx4a65c_add_9ea2d_16 : decode cJx4a65c_add_9ea2d 16 = .ok (.aload_n 0, 1) := by decide +kernel
theorem dJx4a65c_add_9ea2d_17 : decode cJx4a65c_add_9ea2d 17 = .ok (.getfield 48, 3) := by decide +kernel
theorem dJx4a65c_add_9ea2d_20 : decode cJx4a65c_add_9ea2d 20 = .ok (.invokevirtual 131, 3) := by decide +kernel
theorem dJx4a65c_add_9ea2d_23 : decode cJx4a65c_add_9ea2d 23 = .ok (.iconst 1, 1) := by decide +kernel
theorem dJx4a65c_add_9ea2d_24 : decode cJx4a65c_add_9ea2d 24 = .ok (.ireturn, 1) := by decide +kernel
theorem dJ7_fill_53178_0 : decode cJ7_fill_53178 0 = .ok (.iconst 0, 1) := by decide +kernel
theorem dJ7_fill_53178_1 : decode cJ7_fill_53178 1 = .ok (.istore_n 2, 1) := by decide +kernel
theorem dJ7_fill_53178_2 : decode cJ7_fill_53178 2 = .ok (.aload_n 0, 1) := by decide +kernel
theorem dJ7_fill_53178_3 : decode cJ7_fill_53178 3 = .ok (.arraylength, 1) := by decide +kernel
theorem dJ7_fill_53178_4 : decode cJ7_fill_53178 4 = .ok (.istore_n 3, 1) := by decide +kernel
theorem dJ7_fill_53178_5 : decode cJ7_fill_53178 5 = .ok (.iload_n 2, 1) := by decide +kernel
theorem dJ7_fill_53178_6 : decode cJ7_fill_53178 6 = .ok (.iload_n 3, 1) := by decide +kernel
theorem dJ7_fill_53178_7 : decode cJ7_fill_53178 7 = .ok (.if_icmp .ge 13, 3) := by decide +kernel
theorem dJ7_fill_53178_10 : decode cJ7_fill_53178 10 = .ok (.aload_n 0, 1) := by decide +kernel
theorem dJ7_fill_53178_11 : decode cJ7_fill_53178 11 = .ok (.iload_n 2, 1) := by decide +kernel
theorem dJ7_fill_53178_12 : decode cJ7_fill_53178 12 = .ok (.iload_n 1, 1) := by decide +kernel
theorem dJ7_fill_53178_13 : decode cJ7_fill_53178 13 = .ok (.iastore, 1) := by decide +kernel
theorem dJ7_fill_53178_14 : decode cJ7_fill_53178 14 = .ok (.iinc 2 1, 3) := by decide +kernel
theorem dJ7_fill_53178_17 : decode cJ7_fill_53178 17 = .ok (.goto (-12), 3) := by decide +kernel
theorem dJ7_fill_53178_20 : decode cJ7_fill_53178 20 = .ok (.return_, 1) := by decide +kernel
set_option maxRecDepth 20000 in
theorem ggJ7_copyOf_1904c_J7_copyOf_6403c : GoodIn wsJ7_copyOf_1904c wsJ7_copyOf_6403c := goodIn_r _ [8, 9, 10, 11, 12, 13, 14, 15, 16, 17, 18] (by decide +kernel) (by decide +kernel)
set_option maxRecDepth 20000 in
theorem gJ7_copyOf_1904c_J7_copyOf_6403c : GoodIn wsJ7_copyOf_1904c (va_wsS RJ7 300 yJ7_copyOf_6403c wsJ7_copyOf_6403c) := goodIn_app (goodIn_of _ (by decide +kernel)) ggJ7_copyOf_1904c_J7_copyOf_6403c
theorem dJ7_copyOf_1904c_0 : decode cJ7_copyOf_1904c 0 = .ok (.aload_n 0, 1) := by decide +kernel
theorem dJ7_copyOf_1904c_1 : decode cJ7_copyOf_1904c 1 = .ok (.iload_n 1, 1) := by decide +kernel
theorem dJ7_copyOf_1904c_2 : decode cJ7_copyOf_1904c 2 = .ok (.aload_n 0, 1) := by decide +kernel
theorem dJ7_copyOf_1904c_3 : decode cJ7_copyOf_1904c 3 = .ok (.invokevirtual 86, 3) := by decide +kernel
theorem dJ7_copyOf_1904c_6 : decode cJ7_copyOf_1904c 6 = .ok (.invokestatic 300, 3) := by decide +kernel
theorem dJ7_copyOf_1904c_9 : decode cJ7_copyOf_1904c 9 = .ok (.areturn, 1) := by decide +kernel
theorem dJ7_copyOf_6403c_0 : decode cJ7_copyOf_6403c 0 = .ok (.aload_n 2, 1) := by decide +kernel
theorem dJ7_copyOf_6403c_1 : decode cJ7_copyOf_6403c 1 = .ok (.ldc 110, 2) := by decide +kernel
theorem dJ7_copyOf_6403c_3 : decode cJ7_copyOf_6403c 3 = .ok (.if_acmp .ne 10, 3) := by decide +kernel
theorem dJ7_copyOf_6403c_6 : decode cJ7_copyOf_6403c 6 = .ok (.iload_n 1, 1) := by decide +kernel
theorem dJ7_copyOf_6403c_7 : decode cJ7_copyOf_6403c 7 = .ok (.anewarray 2, 3) := by decide +kernel
theorem dJ7_copyOf_6403c_10 : decode cJ7_copyOf_6403c 10 = .ok (.goto 14, 3) := by decide +kernel
theorem dJ7_copyOf_6403c_13 : decode cJ7_copyOf_6403c 13 = .ok (.aload_n 2, 1) := by decide +kernel
theorem dJ7_copyOf_6403c_14 : decode cJ7_copyOf_6403c 14 = .ok (.invokevirtual 90, 3) := by decide +kernel
theorem dJ7_copyOf_6403c_17 : decode cJ7_copyOf_6403c 17 = .ok (.iload_n 1, 1) := by decide +kernel
theorem dJ7_copyOf_6403c_18 : decode cJ7_copyOf_6403c 18 = .ok (.invokestatic 95, 3) := by decide +kernel
theorem dJ7_copyOf_6403c_21 : decode cJ7_copyOf_6403c 21 = .ok (.checkcast 110, 3) := by decide +kernel
theorem dJ7_copyOf_6403c_24 : decode cJ7_copyOf_6403c 24 = .ok (.astore_n 3, 1) := by decide +kernel
theorem dJ7_copyOf_6403c_25 : decode cJ7_copyOf_6403c 25 = .ok (.aload_n 0, 1) := by decide +kernel
theorem dJ7_copyOf_6403c_26 : decode cJ7_copyOf_6403c 26 = .ok (.iconst 0, 1) := by decide +kernel
theorem dJ7_copyOf_6403c_27 : decode cJ7_copyOf_6403c 27 = .ok (.aload_n 3, 1) := by decide +kernel
theorem dJ7_copyOf_6403c_28 : decode cJ7_copyOf_6403c 28 = .ok (.iconst 0, 1) := by decide +kernel
theorem dJ7_copyOf_6403c_29 : decode cJ7_copyOf_6403c 29 = .ok (.aload_n 0, 1) := by decide +kernel
theorem dJ7_copyOf_6403c_30 : decode cJ7_copyOf_6403c 30 = .ok (.arraylength, 1) := by decide +kernel
theorem dJ7_copyOf_6403c_31 : decode cJ7_copyOf_6403c 31 = .ok (.iload_n 1, 1) := by decide +kernel
theorem dJ7_copyOf_6403c_32 : decode cJ7_copyOf_6403c 32 = .ok (.invokestatic 304, 3) := by decide +kernel
theorem dJ7_copyOf_6403c_35 : decode cJ7_copyOf_6403c 35 = .ok (.invokestatic 150, 3) := by decide +kernel
theorem dJ7_copyOf_6403c_38 : decode cJ7_copyOf_6403c 38 = .ok (.aload_n 3, 1) := by decide +kernel
theorem dJ7_copyOf_6403c_39 : decode cJ7_copyOf_6403c 39 = .ok (.areturn, 1) := by decide +kernel
set_option maxRecDepth 20000 in
theorem ggJ15_checkIndex_7cf53_J3_checkIndex_8e157 : GoodIn wsJ15_checkIndex_7cf53 wsJ3_checkIndex_8e157 := goodIn_r _ [4] (by decide +kernel) (by decide +kernel)
set_option maxRecDepth 20000 in
theorem gJ15_checkIndex_7cf53_J3_checkIndex_8e157 : GoodIn wsJ15_checkIndex_7cf53 (va_wsS RJ15 105 yJ3_checkIndex_8e157 wsJ3_checkIndex_8e157) := goodIn_app (goodIn_of _ (by decide +kernel)) ggJ15_checkIndex_7cf53_J3_checkIndex_8e157
theorem dJ15_checkIndex_7cf53_0 : decode cJ15_checkIndex_7cf53 0 = .ok (.iload_n 0, 1) := by decide +kernel
theorem dJ15_checkIndex_7cf53_1 : decode cJ15_checkIndex_7cf53 1 = .ok (.iload_n 1, 1) := by decide +kernel
theorem dJ15_checkIndex_7cf53_2 : decode cJ15_checkIndex_7cf53 2 = .ok (.aconst_null, 1) := by decide +kernel
theorem dJ15_checkIndex_7cf53_3 : decode cJ15_checkIndex_7cf53 3 = .ok (.invokestatic 105, 3) := by decide +kernel
theorem dJ15_checkIndex_7cf53_6 : decode cJ15_checkIndex_7cf53 6 = .ok (.ireturn, 1) := by decide +kernel
set_option maxRecDepth 20000 in
theorem ggJ8_newLength_cabcc_J8_hugeLength_7cf53 : GoodIn wsJ8_newLength_cabcc wsJ8_hugeLength_7cf53 := goodIn_r _ [9, 5] (by decide +kernel) (by decide +kernel)
set_option maxRecDepth 20000 in
theorem gJ8_newLength_cabcc_J8_hugeLength_7cf53 : GoodIn wsJ8_newLength_cabcc (va_wsS RJ8 201 yJ8_hugeLength_7cf53 wsJ8_hugeLength_7cf53) := goodIn_app (goodIn_of _ (by decide +kernel)) ggJ8_newLength_cabcc_J8_hugeLength_7cf53
theorem dJ8_newLength_cabcc_0 : decode cJ8_newLength_cabcc 0 = .ok (.iload_n 0, 1) := by decide +kernel
theorem dJ8_newLength_cabcc_1 : decode cJ8_newLength_cabcc 1 = .ok (.iload_n 1, 1) := by decide +kernel
theorem dJ8_newLength_cabcc_2 : decode cJ8_newLength_cabcc 2 = .ok (.iload_n 2, 1) := by decide +kernel
theorem dJ8_newLength_cabcc_3 : decode cJ8_newLength_cabcc 3 = .ok (.invokestatic 194, 3) := by decide +kernel
theorem dJ8_newLength_cabcc_6 : decode cJ8_newLength_cabcc 6 = .ok (.iadd, 1) := by decide +kernel
theorem dJ8_newLength_cabcc_7 : decode cJ8_newLength_cabcc 7 = .ok (.istore_n 3, 1) := by decide +kernel
theorem dJ8_newLength_cabcc_8 : decode cJ8_newLength_cabcc 8 = .ok (.iconst 0, 1) := by decide +kernel
theorem dJ8_newLength_cabcc_9 : decode cJ8_newLength_cabcc 9 = .ok (.iload_n 3, 1) := by decide +kernel
theorem dJ8_newLength_cabcc_10 : decode cJ8_newLength_cabcc 10 = .ok (.if_icmp .ge 11, 3) := by decide +kernel
theorem dJ8_newLength_cabcc_13 : decode cJ8_newLength_cabcc 13 = .ok (.iload_n 3, 1) := by decide +kernel
theorem dJ8_newLength_cabcc_14 : decode cJ8_newLength_cabcc 14 = .ok (.ldc 200, 2) := by decide +kernel
theorem dJ8_newLength_cabcc_16 : decode cJ8_newLength_cabcc 16 = .ok (.if_icmp .gt 5, 3) := by decide +kernel
theorem dJ8_newLength_cabcc_19 : decode cJ8_newLength_cabcc 19 = .ok (.iload_n 3, 1) := by decide +kernel
theorem dJ8_newLength_cabcc_20 : decode cJ8_newLength_cabcc 20 = .ok (.ireturn, 1) := by decide +kernel
theorem dJ8_newLength_cabcc_21 : decode cJ8_newLength_cabcc 21 = .ok (.iload_n 0, 1) := by decide +kernel
theorem dJ8_newLength_cabcc_22 : decode cJ8_newLength_cabcc 22 = .ok (.iload_n 1, 1) := by decide +kernel
theorem dJ8_newLength_cabcc_23 : decode cJ8_newLength_cabcc 23 = .ok (.invokestatic 201, 3) := by decide +kernel
theorem dJ8_newLength_cabcc_26 : decode cJ8_newLength_cabcc 26 = .ok (.ireturn, 1) := by decide +kernel
theorem dJ8_hugeLength_7cf53_0 : decode cJ8_hugeLength_7cf53 0 = .ok (.iload_n 0, 1) := by decide +kernel
theorem dJ8_hugeLength_7cf53_1 : decode cJ8_hugeLength_7cf53 1 = .ok (.iload_n 1, 1) := by decide +kernel
theorem dJ8_hugeLength_7cf53_2 : decode cJ8_hugeLength_7cf53 2 = .ok (.iadd, 1) := by decide +kernel
theorem dJ8_hugeLength_7cf53_3 : decode cJ8_hugeLength_7cf53 3 = .ok (.istore_n 2, 1) := by decide +kernel
theorem dJ8_hugeLength_7cf53_4 : decode cJ8_hugeLength_7cf53 4 = .ok (.iload_n 2, 1) := by decide +kernel
theorem dJ8_hugeLength_7cf53_5 : decode cJ8_hugeLength_7cf53 5 = .ok (.ifCond .ge 44, 3) := by decide +kernel
theorem dJ8_hugeLength_7cf53_8 : decode cJ8_hugeLength_7cf53 8 = .ok (.new 204, 3) := by decide +kernel
theorem dJ8_hugeLength_7cf53_11 : decode cJ8_hugeLength_7cf53 11 = .ok (.dup, 1) := by decide +kernel
theorem dJ8_hugeLength_7cf53_12 : decode cJ8_hugeLength_7cf53 12 = .ok (.new 89, 3) := by decide +kernel
theorem dJ8_hugeLength_7cf53_15 : decode cJ8_hugeLength_7cf53 15 = .ok (.dup, 1) := by decide +kernel
theorem dJ8_hugeLength_7cf53_16 : decode cJ8_hugeLength_7cf53 16 = .ok (.invokespecial 91, 3) := by decide +kernel
theorem dJ8_hugeLength_7cf53_19 : decode cJ8_hugeLength_7cf53 19 = .ok (.ldc 206, 2) := by decide +kernel
theorem dJ8_hugeLength_7cf53_21 : decode cJ8_hugeLength_7cf53 21 = .ok (.invokevirtual 94, 3) := by decide +kernel
theorem dJ8_hugeLength_7cf53_24 : decode cJ8_hugeLength_7cf53 24 = .ok (.iload_n 0, 1) := by decide +kernel
theorem dJ8_hugeLength_7cf53_25 : decode cJ8_hugeLength_7cf53 25 = .ok (.invokevirtual 98, 3) := by decide +kernel
theorem dJ8_hugeLength_7cf53_28 : decode cJ8_hugeLength_7cf53 28 = .ok (.ldc 208, 2) := by decide +kernel
theorem dJ8_hugeLength_7cf53_30 : decode cJ8_hugeLength_7cf53 30 = .ok (.invokevirtual 94, 3) := by decide +kernel
theorem dJ8_hugeLength_7cf53_33 : decode cJ8_hugeLength_7cf53 33 = .ok (.iload_n 1, 1) := by decide +kernel
theorem dJ8_hugeLength_7cf53_34 : decode cJ8_hugeLength_7cf53 34 = .ok (.invokevirtual 98, 3) := by decide +kernel
theorem dJ8_hugeLength_7cf53_37 : decode cJ8_hugeLength_7cf53 37 = .ok (.ldc 210, 2) := by decide +kernel
theorem dJ8_hugeLength_7cf53_39 : decode cJ8_hugeLength_7cf53 39 = .ok (.invokevirtual 94, 3) := by decide +kernel
theorem dJ8_hugeLength_7cf53_42 : decode cJ8_hugeLength_7cf53 42 = .ok (.invokevirtual 101, 3) := by decide +kernel
theorem dJ8_hugeLength_7cf53_45 : decode cJ8_hugeLength_7cf53 45 = .ok (.invokespecial 212, 3) := by decide +kernel
theorem dJ8_hugeLength_7cf53_48 : decode cJ8_hugeLength_7cf53 48 = .ok (.athrow, 1) := by decide +kernel
theorem dJ8_hugeLength_7cf53_49 : decode cJ8_hugeLength_7cf53 49 = .ok (.iload_n 2, 1) := by decide +kernel
theorem dJ8_hugeLength_7cf53_50 : decode cJ8_hugeLength_7cf53 50 = .ok (.ldc 200, 2) := by decide +kernel
theorem dJ8_hugeLength_7cf53_52 : decode cJ8_hugeLength_7cf53 52 = .ok (.if_icmp .gt 6, 3) := by decide +kernel
theorem dJ8_hugeLength_7cf53_55 : decode cJ8_hugeLength_7cf53 55 = .ok (.ldc 200, 2) := by decide +kernel
theorem dJ8_hugeLength_7cf53_57 : decode cJ8_hugeLength_7cf53 57 = .ok (.ireturn, 1) := by decide +kernel
theorem dJ8_hugeLength_7cf53_58 : decode cJ8_hugeLength_7cf53 58 = .ok (.iload_n 2, 1) := by decide +kernel
theorem dJ8_hugeLength_7cf53_59 : decode cJ8_hugeLength_7cf53 59 = .ok (.ireturn, 1) := by decide +kernel
theorem dJ3_checkIndex_8e157_0 : decode cJ3_checkIndex_8e157 0 = .ok (.iload_n 0, 1) := by decide +kernel
theorem dJ3_checkIndex_8e157_1 : decode cJ3_checkIndex_8e157 1 = .ok (.ifCond .lt 8, 3) := by decide +kernel
theorem dJ3_checkIndex_8e157_4 : decode cJ3_checkIndex_8e157 4 = .ok (.iload_n 0, 1) := by decide +kernel
theorem dJ3_checkIndex_8e157_5 : decode cJ3_checkIndex_8e157 5 = .ok (.iload_n 1, 1) := by decide +kernel
theorem dJ3_checkIndex_8e157_6 : decode cJ3_checkIndex_8e157 6 = .ok (.if_icmp .lt 10, 3) := by decide +kernel
theorem dJ3_checkIndex_8e157_9 : decode cJ3_checkIndex_8e157 9 = .ok (.aload_n 2, 1) := by decide +kernel
theorem dJ3_checkIndex_8e157_10 : decode cJ3_checkIndex_8e157 10 = .ok (.iload_n 0, 1) := by decide +kernel
theorem dJ3_checkIndex_8e157_11 : decode cJ3_checkIndex_8e157 11 = .ok (.iload_n 1, 1) := by decide +kernel
theorem dJ3_checkIndex_8e157_12 : decode cJ3_checkIndex_8e157 12 = .ok (.invokestatic 95, 3) := by decide +kernel
theorem dJ3_checkIndex_8e157_15 : decode cJ3_checkIndex_8e157 15 = .ok (.athrow, 1) := by decide +kernel
theorem dJ3_checkIndex_8e157_16 : decode cJ3_checkIndex_8e157 16 = .ok (.iload_n 0, 1) := by decide +kernel
theorem dJ3_checkIndex_8e157_17 : decode cJ3_checkIndex_8e157 17 = .ok (.ireturn, 1) := by decide +kernel
end
section
/-! ===== the memory layer: a world is a list of labels; each label has an address, a kind, a length, and what it holds: ints V, longs J, labels R ===== -/
abbrev Mv : Type := Nat → Nat → Int32
abbrev Mj : Type := Nat → Nat → Int64
abbrev Mr : Type := Nat → Nat → Option Nat
abbrev Cq : Type := ClassId × ClassId × ClassId × ClassId
def u2 {α : Type} (f : Nat → Nat → α) (k j : Nat) (v : α) : Nat → Nat → α := va_up f k (va_up (f k) j v)
theorem u2_ne {α : Type} {f : Nat → Nat → α} {k j k' : Nat} {v : α} (h : k' ≠ k) : u2 f k j v k' = f k' := va_up_ne _ _ h
theorem u2_s {α : Type} {f : Nat → Nat → α} {k j : Nat} {v : α} : u2 f k j v k = va_up (f k) j v := va_up_self _ _ _
theorem u2_ss {α : Type} {f : Nat → Nat → α} {k j : Nat} {v : α} : u2 f k j v k j = v := by rw [u2_s, va_up_self]
theorem u2_sn {α : Type} {f : Nat → Nat → α} {k j j' : Nat} {v : α} (h : j' ≠ j) : u2 f k j v k j' = f k j' := by rw [u2_s, va_up_ne _ _ h]
theorem u2_un {α : Type} {f : Nat → Nat → α} {k j k' j' : Nat} {v : α} (h : ¬ (k' = k ∧ j' = j)) : u2 f k j v k' j' = f k' j' := by
  by_cases hk : k' = k
  · subst hk
    exact u2_sn (fun e => h ⟨rfl, e⟩)
  · rw [u2_ne hk]
theorem up_upd (f : Nat → Int32) (k : Nat) (x : Int32) : upd f k x = va_up f k x := rfl
/-- what an object of class ci holds, by its slots: ints, longs, labels -/
def cf (ci : Nat) (ad : Nat → Nat) (v : Nat → Int32) (j : Nat → Int64) (r : Nat → Option Nat) : List Value := match ci with
  | 0 => [.int (v 0), va_rf ((r 1).map ad), .int (v 2)]
  | 1 => [va_rf ((r 0).map ad), .int (v 1), .int (v 2), .int (v 3), .int (v 4), .int (v 5), .int (v 6), .int (v 7), .int (v 8), .int (v 9), .int (v 10), .int (v 11)]
  | 2 => [va_rf ((r 0).map ad), va_rf ((r 1).map ad), va_rf ((r 2).map ad), .int (v 3)]
  | 3 => [.int (v 0), .int (v 1), .long (j 2), .int (v 3), .long (j 4)]
  | 4 => [.int (v 0), va_rf ((r 1).map ad), .int (v 2), .int (v 3), .int (v 4), .int (v 5)]
  | 5 => [va_rf ((r 0).map ad), va_rf ((r 1).map ad), va_rf ((r 2).map ad), va_rf ((r 3).map ad), .int (v 4), .int (v 5), .int (v 6)]
  | 6 => [va_rf ((r 0).map ad), .int (v 1), .int (v 2), .int (v 3), .int (v 4)]
  | 7 => [va_rf ((r 0).map ad), .int (v 1)]
  | 8 => [va_rf ((r 0).map ad), va_rf ((r 1).map ad), va_rf ((r 2).map ad), va_rf ((r 3).map ad), va_rf ((r 4).map ad), va_rf ((r 5).map ad), va_rf ((r 6).map ad), .int (v 7)]
  | _ => [.int (v 0), .int (v 1), va_rf ((r 2).map ad), va_rf ((r 3).map ad), va_rf ((r 4).map ad), va_rf ((r 5).map ad), va_rf ((r 6).map ad), .int (v 7), va_rf ((r 8).map ad), va_rf ((r 9).map ad), va_rf ((r 10).map ad), va_rf ((r 11).map ad), va_rf ((r 12).map ad), va_rf ((r 13).map ad), va_rf ((r 14).map ad), va_rf ((r 15).map ad), va_rf ((r 16).map ad), va_rf ((r 17).map ad), va_rf ((r 18).map ad), va_rf ((r 19).map ad), va_rf ((r 20).map ad), .int (v 21), .int (v 22), .long (j 23), .int (v 24), .int (v 25), .int (v 26), va_rf ((r 27).map ad), va_rf ((r 28).map ad), va_rf ((r 29).map ad), va_rf ((r 30).map ad), va_rf ((r 31).map ad), .int (v 32), .int (v 33), .int (v 34), .int (v 35), .int (v 36), .int (v 37), .int (v 38), .int (v 39), .int (v 40), .int (v 41), va_rf ((r 42).map ad), va_rf ((r 43).map ad), va_rf ((r 44).map ad), va_rf ((r 45).map ad), va_rf ((r 46).map ad), .int (v 47)]
def ce (q : Cq) (kd ln ad : Nat → Nat) (V : Mv) (J : Mj) (R : Mr) (k : Nat) : va_E :=
  if kd k = 10 then .inl (q.1, ln k, .inl (V k))
  else if kd k = 11 then .inl (q.2.1, ln k, .inl (V k))
  else if kd k = 12 then .inl (q.2.2.1, ln k, .inl (V k))
  else if kd k = 13 then .inl (q.2.2.2, ln k, .inr (.inr (.inr (.inr (fun i => (R k i).map ad)))))
  else .inr (kd k, cf (kd k) ad (V k) (J k) (R k))
theorem ce_o {q : Cq} {kd ln ad : Nat → Nat} {V : Mv} {J : Mj} {R : Mr} {k ci : Nat} (h : kd k = ci) (hci : ci < 10) : ce q kd ln ad V J R k = .inr (ci, cf ci ad (V k) (J k) (R k)) := by
  unfold ce
  rw [if_neg (by omega), if_neg (by omega), if_neg (by omega), if_neg (by omega), h]
theorem ce_i {q : Cq} {kd ln ad : Nat → Nat} {V : Mv} {J : Mj} {R : Mr} {k : Nat} (h : kd k = 10) : ce q kd ln ad V J R k = .inl (q.1, ln k, .inl (V k)) := by
  unfold ce
  rw [if_pos h]
theorem ce_b {q : Cq} {kd ln ad : Nat → Nat} {V : Mv} {J : Mj} {R : Mr} {k : Nat} (h : kd k = 11) : ce q kd ln ad V J R k = .inl (q.2.1, ln k, .inl (V k)) := by
  unfold ce
  rw [if_neg (by omega), if_pos h]
theorem ce_z {q : Cq} {kd ln ad : Nat → Nat} {V : Mv} {J : Mj} {R : Mr} {k : Nat} (h : kd k = 12) : ce q kd ln ad V J R k = .inl (q.2.2.1, ln k, .inl (V k)) := by
  unfold ce
  rw [if_neg (by omega), if_neg (by omega), if_pos h]
theorem ce_q {q : Cq} {kd ln ad : Nat → Nat} {V : Mv} {J : Mj} {R : Mr} {k : Nat} (h : kd k = 13) : ce q kd ln ad V J R k = .inl (q.2.2.2, ln k, .inr (.inr (.inr (.inr (fun i => (R k i).map ad))))) := by
  unfold ce
  rw [if_neg (by omega), if_neg (by omega), if_neg (by omega), if_pos h]
theorem ce_eq {q : Cq} {kd ln ad : Nat → Nat} {V V' : Mv} {J J' : Mj} {R R' : Mr} {k : Nat} (hV : V' k = V k) (hJ : J' k = J k) (hR : R' k = R k) : ce q kd ln ad V' J' R' k = ce q kd ln ad V J R k := by
  unfold ce
  rw [hV, hJ, hR]
def wl (q : Cq) (dm : List Nat) (kd ln ad : Nat → Nat) (V : Mv) (J : Mj) (R : Mr) : va_W := dm.map (fun k => (ad k, ce q kd ln ad V J R k))
def tyq (q : Cq) : List (ClassId × FieldType) := [(q.1, .int), (q.2.1, .byte), (q.2.2.1, .boolean), (q.2.2.2, .object "java/lang/Object")]
def wok (A : Nat → Prop) (D : va_G) (q : Cq) (dm : List Nat) (kd ln ad : Nat → Nat) (V : Mv) (J : Mj) (R : Mr) (H : Heap) : Prop := va_P D vwCl (wl q dm kd ln ad V J R) H ∧ va_D A (wl q dm kd ln ad V J R)
theorem wl_get {q : Cq} {dm : List Nat} {kd ln ad : Nat → Nat} {V : Mv} {J : Mj} {R : Mr} {i : Nat} {x : Nat × va_E} (h : (wl q dm kd ln ad V J R)[i]? = some x) : ∃ k, dm[i]? = some k ∧ x = (ad k, ce q kd ln ad V J R k) := by
  unfold wl at h
  rw [List.getElem?_map] at h
  cases hk : dm[i]? with
  | none => rw [hk] at h; cases h
  | some k => rw [hk] at h; exact ⟨k, rfl, (Option.some.inj h).symm⟩
theorem wl_put {q : Cq} {dm : List Nat} {kd ln ad : Nat → Nat} (V : Mv) (J : Mj) (R : Mr) {i k : Nat} (h : dm[i]? = some k) : (wl q dm kd ln ad V J R)[i]? = some (ad k, ce q kd ln ad V J R k) := by
  unfold wl
  rw [List.getElem?_map, h]
  rfl
theorem wl_at {q : Cq} {dm : List Nat} {kd ln ad : Nat → Nat} (V : Mv) (J : Mj) (R : Mr) {k : Nat} (h : k ∈ dm) : ∃ i : Nat, dm[i]? = some k ∧ (wl q dm kd ln ad V J R)[i]? = some (ad k, ce q kd ln ad V J R k) := by
  obtain ⟨i, hi⟩ := List.getElem?_of_mem h
  exact ⟨i, hi, wl_put V J R hi⟩
theorem wl_D {A : Nat → Prop} {q : Cq} {dm : List Nat} {kd ln ad : Nat → Nat} {V V' : Mv} {J J' : Mj} {R R' : Mr} (h : va_D A (wl q dm kd ln ad V J R)) : va_D A (wl q dm kd ln ad V' J' R') := by
  refine ⟨fun i j x y hx hy hxy => ?_, fun i x hx => ?_⟩
  · obtain ⟨a, ha, rfl⟩ := wl_get hx
    obtain ⟨b, hb, rfl⟩ := wl_get hy
    exact h.1 i j _ _ (wl_put V J R ha) (wl_put V J R hb) hxy
  · obtain ⟨a, ha, rfl⟩ := wl_get hx
    exact h.2 i (ad a, ce q kd ln ad V J R a) (wl_put V J R ha)
theorem wl_set {A : Nat → Prop} {q : Cq} {dm : List Nat} {kd ln ad : Nat → Nat} {V V' : Mv} {J J' : Mj} {R R' : Mr} {i k : Nat} {e : va_E} (hD : va_D A (wl q dm kd ln ad V J R)) (hi : dm[i]? = some k) (he : ce q kd ln ad V' J' R' k = e) (ho : ∀ k', k' ≠ k → ce q kd ln ad V' J' R' k' = ce q kd ln ad V J R k') : (wl q dm kd ln ad V J R).set i (ad k, e) = wl q dm kd ln ad V' J' R' := by
  have hl : i < (wl q dm kd ln ad V J R).length := (List.getElem?_eq_some_iff.mp (wl_put (q := q) (kd := kd) (ln := ln) (ad := ad) V J R hi)).1
  apply List.ext_getElem?
  intro n
  by_cases hn : n = i
  · subst hn
    rw [List.getElem?_set_self hl, wl_put V' J' R' hi, he]
  · rw [List.getElem?_set_ne (Ne.symm hn)]
    cases hk : dm[n]? with
    | none =>
      unfold wl
      rw [List.getElem?_map, List.getElem?_map, hk]
      rfl
    | some k' =>
      have hkk : k' ≠ k := fun e2 => by
        subst e2
        exact hn (hD.1 n i _ _ (wl_put V J R hk) (wl_put V J R hi) rfl)
      rw [wl_put V J R hk, wl_put V' J' R' hk, ho k' hkk]
theorem wok_set {A : Nat → Prop} {D : va_G} {q : Cq} {dm : List Nat} {kd ln ad : Nat → Nat} {V V' : Mv} {J J' : Mj} {R R' : Mr} {H H1 : Heap} {i k : Nat} {e : va_E} (hW : wok A D q dm kd ln ad V J R H) (hi : dm[i]? = some k) (he : ce q kd ln ad V' J' R' k = e) (ho : ∀ k', k' ≠ k → ce q kd ln ad V' J' R' k' = ce q kd ln ad V J R k') (hP : va_P D vwCl ((wl q dm kd ln ad V J R).set i (ad k, e)) H1) : wok A D q dm kd ln ad V' J' R' H1 := by
  rw [wl_set hW.2 hi he ho] at hP
  exact ⟨hP, wl_D hW.2⟩
section Rows
variable {p : Program} {l : Launch} {e : Env} {Rm : Room} {s : State} {m : MethodId} {args : Array Value} {below : List Frame} {meth : Method} {c : Code} {H H0 : Heap} {locs : List Loc} {cells slots : Nat} {Q : State → Prop} {cc : ByteArray} {pc : Nat} {ls : Array Slot} {rest : List Value} {A : Nat → Prop} {D : va_G} {q : Cq} {dm : List Nat} {kd ln ad : Nat → Nat} {V : Mv} {J : Mj} {R : Mr}
theorem w_get (hx : p.tables.exec = Jvm.exec) (hb : c.code = cc) {own C : String} {T : u_T} {N ci index : Nat} {Ts : List Cond} (hts : ∀ w ∈ Ts, w.before args s = true) (hin : ∀ w ∈ u_ws C T N, w ∈ Ts) (hown : s.vm.findClass own = some m.cls) (hK : va_K D vwCl (tyq q) s) (hW : wok A D q dm kd ln ad V J R H) {k : Nat} (hk : k ∈ dm) (hd : kd k = ci) (hci : ci < 10) (hc : vwCl[ci]? = some (C, T, N)) (j : Nat) (hj : j < N) {ref : String} (hlink : (Cond.fieldLink own index ref (T j).2.1 (T j).2.2.1).before args s = true) (hsame : ∀ x, s.fieldFound? (T j).1 (T j).2.1 (T j).2.2.1 = some x → s.fieldFound? ref (T j).2.1 (T j).2.2.1 = some x) {v : Value} (hv : (cf ci ad (V k) (J k) (R k))[j]? = some v) (hdg : decode cc pc = .ok (.getfield index, 3))
    (kk : W p l e Rm s m args below meth c H locs cells slots Q (F0 m (pc + 3) ls (v :: rest))) : W p l e Rm s m args below meth c H locs cells slots Q (F0 m pc ls (.ref (ad k) :: rest)) := by
  obtain ⟨i, h1, h2⟩ := wl_at (q := q) (kd := kd) (ln := ln) (ad := ad) V J R hk
  rw [ce_o hd hci] at h2
  exact va_get hx hb hts hin hown hK hW.1 i h2 hc j hj hlink hsame hv hdg kk
theorem w_getr (hx : p.tables.exec = Jvm.exec) (hb : c.code = cc) {own C : String} {T : u_T} {N ci index : Nat} {Ts : List Cond} (hts : ∀ w ∈ Ts, w.before args s = true) (hin : ∀ w ∈ u_ws C T N, w ∈ Ts) (hown : s.vm.findClass own = some m.cls) (hK : va_K D vwCl (tyq q) s) (hW : wok A D q dm kd ln ad V J R H) {k : Nat} (hk : k ∈ dm) (hd : kd k = ci) (hci : ci < 10) (hc : vwCl[ci]? = some (C, T, N)) (j : Nat) (hj : j < N) {ref : String} (hlink : (Cond.fieldLink own index ref (T j).2.1 (T j).2.2.1).before args s = true) (hsame : ∀ x, s.fieldFound? (T j).1 (T j).2.1 (T j).2.2.1 = some x → s.fieldFound? ref (T j).2.1 (T j).2.2.1 = some x) (hv : (cf ci ad (V k) (J k) (R k))[j]? = some (va_rf ((R k j).map ad))) {t : Nat} (ht : R k j = some t) (hdg : decode cc pc = .ok (.getfield index, 3))
    (kk : W p l e Rm s m args below meth c H locs cells slots Q (F0 m (pc + 3) ls (.ref (ad t) :: rest))) : W p l e Rm s m args below meth c H locs cells slots Q (F0 m pc ls (.ref (ad k) :: rest)) := by
  rw [ht] at hv
  exact w_get hx hb hts hin hown hK hW hk hd hci hc j hj hlink hsame (v := .ref (ad t)) hv hdg kk
theorem w_puti (hx : p.tables.exec = Jvm.exec) (hb : c.code = cc) {own C : String} {T : u_T} {N ci index : Nat} {Ts : List Cond} (hts : ∀ w ∈ Ts, w.before args s = true) (hin : ∀ w ∈ u_ws C T N, w ∈ Ts) (ty0 : Nat → FieldType) (hty : ∀ k, k < N → parseFieldDescriptor (T k).2.2.1 = some (ty0 k)) (hnm : ∀ a, a < N → ∀ b, b < N → a ≠ b → (T a).2.1 ≠ (T b).2.1) (hown : s.vm.findClass own = some m.cls) (hK : va_K D vwCl (tyq q) s) (hW : wok A D q dm kd ln ad V J R H) (hS : va_S A H0 H locs) {k : Nat} (hk : k ∈ dm) (hd : kd k = ci) (hci : ci < 10) (hc : vwCl[ci]? = some (C, T, N)) (j : Nat) (hj : j < N) {ref : String} (hlink : (Cond.fieldLink own index ref (T j).2.1 (T j).2.2.1).before args s = true) (hsame : ∀ x, s.fieldFound? (T j).1 (T j).2.1 (T j).2.2.1 = some x → s.fieldFound? ref (T j).2.1 (T j).2.2.1 = some x) (hfin : (T j).2.2.2 = false) {ty : FieldType} {v : Int32} (hdt : parseFieldDescriptor (T j).2.2.1 = some ty) (hn : narrow ty (.int v) = .int v) (hfit : fits ty (.int v) = true) (hl : j < (cf ci ad (V k) (J k) (R k)).length) (hset : cf ci ad (va_up (V k) j v) (J k) (R k) = (cf ci ad (V k) (J k) (R k)).set j (.int v)) (hdg : decode cc pc = .ok (.putfield index, 3))
    (kk : ∀ (H1 : Heap) (locs1 : List Loc), wok A D q dm kd ln ad (u2 V k j v) J R H1 → va_S A H0 H1 locs1 → W p l e Rm s m args below meth c H1 locs1 cells slots Q (F0 m (pc + 3) ls rest)) : W p l e Rm s m args below meth c H locs cells slots Q (F0 m pc ls (.int v :: .ref (ad k) :: rest)) := by
  obtain ⟨i, h1, h2⟩ := wl_at (q := q) (kd := kd) (ln := ln) (ad := ad) V J R hk
  rw [ce_o hd hci] at h2
  refine va_put hx hb hts hin ty0 hty hnm hown hK hW.1 hW.2 hS i h2 hc j hj hlink hsame hfin hdt hn hfit hl hdg (fun H1 locs1 hP1 hD1 hS1 => kk H1 locs1 ?_ hS1)
  refine wok_set hW h1 ?_ (fun k' hk' => ce_eq (u2_ne hk') rfl rfl) hP1
  rw [ce_o hd hci, u2_s, hset]
theorem w_putl (hx : p.tables.exec = Jvm.exec) (hb : c.code = cc) {own C : String} {T : u_T} {N ci index : Nat} {Ts : List Cond} (hts : ∀ w ∈ Ts, w.before args s = true) (hin : ∀ w ∈ u_ws C T N, w ∈ Ts) (ty0 : Nat → FieldType) (hty : ∀ k, k < N → parseFieldDescriptor (T k).2.2.1 = some (ty0 k)) (hnm : ∀ a, a < N → ∀ b, b < N → a ≠ b → (T a).2.1 ≠ (T b).2.1) (hown : s.vm.findClass own = some m.cls) (hK : va_K D vwCl (tyq q) s) (hW : wok A D q dm kd ln ad V J R H) (hS : va_S A H0 H locs) {k : Nat} (hk : k ∈ dm) (hd : kd k = ci) (hci : ci < 10) (hc : vwCl[ci]? = some (C, T, N)) (j : Nat) (hj : j < N) {ref : String} (hlink : (Cond.fieldLink own index ref (T j).2.1 (T j).2.2.1).before args s = true) (hsame : ∀ x, s.fieldFound? (T j).1 (T j).2.1 (T j).2.2.1 = some x → s.fieldFound? ref (T j).2.1 (T j).2.2.1 = some x) (hfin : (T j).2.2.2 = false) {ty : FieldType} {v : Int64} (hdt : parseFieldDescriptor (T j).2.2.1 = some ty) (hn : narrow ty (.long v) = .long v) (hfit : fits ty (.long v) = true) (hl : j < (cf ci ad (V k) (J k) (R k)).length) (hset : cf ci ad (V k) (va_up (J k) j v) (R k) = (cf ci ad (V k) (J k) (R k)).set j (.long v)) (hdg : decode cc pc = .ok (.putfield index, 3))
    (kk : ∀ (H1 : Heap) (locs1 : List Loc), wok A D q dm kd ln ad V (u2 J k j v) R H1 → va_S A H0 H1 locs1 → W p l e Rm s m args below meth c H1 locs1 cells slots Q (F0 m (pc + 3) ls rest)) : W p l e Rm s m args below meth c H locs cells slots Q (F0 m pc ls (.long v :: .ref (ad k) :: rest)) := by
  obtain ⟨i, h1, h2⟩ := wl_at (q := q) (kd := kd) (ln := ln) (ad := ad) V J R hk
  rw [ce_o hd hci] at h2
  refine va_put hx hb hts hin ty0 hty hnm hown hK hW.1 hW.2 hS i h2 hc j hj hlink hsame hfin hdt hn hfit hl hdg (fun H1 locs1 hP1 hD1 hS1 => kk H1 locs1 ?_ hS1)
  refine wok_set hW h1 ?_ (fun k' hk' => ce_eq rfl (u2_ne hk') rfl) hP1
  rw [ce_o hd hci, u2_s, hset]
theorem w_iald (hx : p.tables.exec = Jvm.exec) (hb : c.code = cc) (hK : va_K D vwCl (tyq q) s) (hW : wok A D q dm kd ln ad V J R H) {k : Nat} (hk : k ∈ dm) (hd : kd k = 10) {i : Int32} (hin : vp_in i (ln k)) (hdg : decode cc pc = .ok (.iaload, 1))
    (kk : W p l e Rm s m args below meth c H locs cells slots Q (F0 m (pc + 1) ls (.int (V k i.toNatClampNeg) :: rest))) : W p l e Rm s m args below meth c H locs cells slots Q (F0 m pc ls (.int i :: .ref (ad k) :: rest)) := by
  obtain ⟨n, h1, h2⟩ := wl_at (q := q) (kd := kd) (ln := ln) (ad := ad) V J R hk
  rw [ce_i hd] at h2
  exact va_iald hx hb hK hW.1 n 0 h2 rfl hin hdg kk
theorem w_bald (hx : p.tables.exec = Jvm.exec) (hb : c.code = cc) (hK : va_K D vwCl (tyq q) s) (hW : wok A D q dm kd ln ad V J R H) {k : Nat} (hk : k ∈ dm) (hd : kd k = 11) {i : Int32} (hin : vp_in i (ln k)) (hdg : decode cc pc = .ok (.baload, 1))
    (kk : W p l e Rm s m args below meth c H locs cells slots Q (F0 m (pc + 1) ls (.int (V k i.toNatClampNeg) :: rest))) : W p l e Rm s m args below meth c H locs cells slots Q (F0 m pc ls (.int i :: .ref (ad k) :: rest)) := by
  obtain ⟨n, h1, h2⟩ := wl_at (q := q) (kd := kd) (ln := ln) (ad := ad) V J R hk
  rw [ce_b hd] at h2
  exact va_bald hx hb hK hW.1 n 1 h2 rfl hin hdg kk
theorem w_zald (hx : p.tables.exec = Jvm.exec) (hb : c.code = cc) (hK : va_K D vwCl (tyq q) s) (hW : wok A D q dm kd ln ad V J R H) {k : Nat} (hk : k ∈ dm) (hd : kd k = 12) {i : Int32} (hin : vp_in i (ln k)) (hdg : decode cc pc = .ok (.baload, 1))
    (kk : W p l e Rm s m args below meth c H locs cells slots Q (F0 m (pc + 1) ls (.int (V k i.toNatClampNeg) :: rest))) : W p l e Rm s m args below meth c H locs cells slots Q (F0 m pc ls (.int i :: .ref (ad k) :: rest)) := by
  obtain ⟨n, h1, h2⟩ := wl_at (q := q) (kd := kd) (ln := ln) (ad := ad) V J R hk
  rw [ce_z hd] at h2
  exact va_zald hx hb hK hW.1 n 2 h2 rfl hin hdg kk
theorem w_aald (hx : p.tables.exec = Jvm.exec) (hb : c.code = cc) (hK : va_K D vwCl (tyq q) s) (hW : wok A D q dm kd ln ad V J R H) {k : Nat} (hk : k ∈ dm) (hd : kd k = 13) {i : Int32} (hin : vp_in i (ln k)) (hdg : decode cc pc = .ok (.aaload, 1))
    (kk : W p l e Rm s m args below meth c H locs cells slots Q (F0 m (pc + 1) ls (va_rf ((R k i.toNatClampNeg).map ad) :: rest))) : W p l e Rm s m args below meth c H locs cells slots Q (F0 m pc ls (.int i :: .ref (ad k) :: rest)) := by
  obtain ⟨n, h1, h2⟩ := wl_at (q := q) (kd := kd) (ln := ln) (ad := ad) V J R hk
  rw [ce_q hd] at h2
  exact va_aldq hx hb hK hW.1 n 3 h2 rfl hin hdg kk
theorem w_iast (hx : p.tables.exec = Jvm.exec) (hb : c.code = cc) (hK : va_K D vwCl (tyq q) s) (hW : wok A D q dm kd ln ad V J R H) (hS : va_S A H0 H locs) {k : Nat} (hk : k ∈ dm) (hd : kd k = 10) {i x : Int32} (hin : vp_in i (ln k)) (hdg : decode cc pc = .ok (.iastore, 1))
    (kk : ∀ (H1 : Heap) (locs1 : List Loc), wok A D q dm kd ln ad (u2 V k i.toNatClampNeg x) J R H1 → va_S A H0 H1 locs1 → W p l e Rm s m args below meth c H1 locs1 cells slots Q (F0 m (pc + 1) ls rest)) : W p l e Rm s m args below meth c H locs cells slots Q (F0 m pc ls (.int x :: .int i :: .ref (ad k) :: rest)) := by
  obtain ⟨n, h1, h2⟩ := wl_at (q := q) (kd := kd) (ln := ln) (ad := ad) V J R hk
  rw [ce_i hd] at h2
  refine va_iast hx hb hK hW.1 hW.2 hS n 0 h2 rfl hin hdg (fun H1 locs1 hP1 hD1 hS1 => kk H1 locs1 ?_ hS1)
  refine wok_set hW h1 ?_ (fun k' hk' => ce_eq (u2_ne hk') rfl rfl) hP1
  rw [ce_i hd, u2_s]
  rfl
theorem w_bast (hx : p.tables.exec = Jvm.exec) (hb : c.code = cc) (hK : va_K D vwCl (tyq q) s) (hW : wok A D q dm kd ln ad V J R H) (hS : va_S A H0 H locs) {k : Nat} (hk : k ∈ dm) (hd : kd k = 11) {i x : Int32} (hin : vp_in i (ln k)) (hdg : decode cc pc = .ok (.bastore, 1))
    (kk : ∀ (H1 : Heap) (locs1 : List Loc), wok A D q dm kd ln ad (u2 V k i.toNatClampNeg (vp_nar .byte x)) J R H1 → va_S A H0 H1 locs1 → W p l e Rm s m args below meth c H1 locs1 cells slots Q (F0 m (pc + 1) ls rest)) : W p l e Rm s m args below meth c H locs cells slots Q (F0 m pc ls (.int x :: .int i :: .ref (ad k) :: rest)) := by
  obtain ⟨n, h1, h2⟩ := wl_at (q := q) (kd := kd) (ln := ln) (ad := ad) V J R hk
  rw [ce_b hd] at h2
  refine va_bast hx hb hK hW.1 hW.2 hS n 1 h2 rfl hin hdg (fun H1 locs1 hP1 hD1 hS1 => kk H1 locs1 ?_ hS1)
  refine wok_set hW h1 ?_ (fun k' hk' => ce_eq (u2_ne hk') rfl rfl) hP1
  rw [ce_b hd, u2_s]
  rfl
theorem w_zast (hx : p.tables.exec = Jvm.exec) (hb : c.code = cc) (hK : va_K D vwCl (tyq q) s) (hW : wok A D q dm kd ln ad V J R H) (hS : va_S A H0 H locs) {k : Nat} (hk : k ∈ dm) (hd : kd k = 12) {i x : Int32} (hin : vp_in i (ln k)) (hdg : decode cc pc = .ok (.bastore, 1))
    (kk : ∀ (H1 : Heap) (locs1 : List Loc), wok A D q dm kd ln ad (u2 V k i.toNatClampNeg (vp_nar .boolean x)) J R H1 → va_S A H0 H1 locs1 → W p l e Rm s m args below meth c H1 locs1 cells slots Q (F0 m (pc + 1) ls rest)) : W p l e Rm s m args below meth c H locs cells slots Q (F0 m pc ls (.int x :: .int i :: .ref (ad k) :: rest)) := by
  obtain ⟨n, h1, h2⟩ := wl_at (q := q) (kd := kd) (ln := ln) (ad := ad) V J R hk
  rw [ce_z hd] at h2
  refine va_zast hx hb hK hW.1 hW.2 hS n 2 h2 rfl hin hdg (fun H1 locs1 hP1 hD1 hS1 => kk H1 locs1 ?_ hS1)
  refine wok_set hW h1 ?_ (fun k' hk' => ce_eq (u2_ne hk') rfl rfl) hP1
  rw [ce_z hd, u2_s]
  rfl
theorem w_alen (hx : p.tables.exec = Jvm.exec) (hb : c.code = cc) (hK : va_K D vwCl (tyq q) s) (hW : wok A D q dm kd ln ad V J R H) {k : Nat} (hk : k ∈ dm) (hd : kd k = 10) {v : Int32} (hv : nI (ln k) = v) (hdg : decode cc pc = .ok (.arraylength, 1))
    (kk : W p l e Rm s m args below meth c H locs cells slots Q (F0 m (pc + 1) ls (.int v :: rest))) : W p l e Rm s m args below meth c H locs cells slots Q (F0 m pc ls (.ref (ad k) :: rest)) := by
  obtain ⟨n, h1, h2⟩ := wl_at (q := q) (kd := kd) (ln := ln) (ad := ad) V J R hk
  rw [ce_i hd] at h2
  exact va_alen hx hb hK hW.1 n 0 h2 rfl hv hdg kk
theorem w_alenq (hx : p.tables.exec = Jvm.exec) (hb : c.code = cc) (hK : va_K D vwCl (tyq q) s) (hW : wok A D q dm kd ln ad V J R H) {k : Nat} (hk : k ∈ dm) (hd : kd k = 13) {v : Int32} (hv : nI (ln k) = v) (hdg : decode cc pc = .ok (.arraylength, 1))
    (kk : W p l e Rm s m args below meth c H locs cells slots Q (F0 m (pc + 1) ls (.int v :: rest))) : W p l e Rm s m args below meth c H locs cells slots Q (F0 m pc ls (.ref (ad k) :: rest)) := by
  obtain ⟨n, h1, h2⟩ := wl_at (q := q) (kd := kd) (ln := ln) (ad := ad) V J R hk
  rw [ce_q hd] at h2
  exact va_alen hx hb hK hW.1 n 3 h2 rfl hv hdg kk
theorem w_some {o : Option Nat} {t : Nat} (ho : o = some t) (kk : W p l e Rm s m args below meth c H locs cells slots Q (F0 m pc ls (.ref (ad t) :: rest))) : W p l e Rm s m args below meth c H locs cells slots Q (F0 m pc ls (va_rf (o.map ad) :: rest)) := by
  rw [ho]
  exact kk
theorem w_none {o : Option Nat} (ho : o = none) (kk : W p l e Rm s m args below meth c H locs cells slots Q (F0 m pc ls (.null :: rest))) : W p l e Rm s m args below meth c H locs cells slots Q (F0 m pc ls (va_rf (o.map ad) :: rest)) := by
  rw [ho]
  exact kk
end Rows
/-! contracts -/
def xok (X : (Nat → Prop) → State → Prop) : Prop :=
  (∀ (A : Nat → Prop) (U : State) (g : JFrame) (mk : MethodId) (a : Array Value), X A U → X A (U.calling g mk a)) ∧
  ∀ (A B : Nat → Prop) (s U : State), (∀ q, B q → A q) → s.WarmedH U.vm → s.heap.size ≤ U.heap.size → (∀ q : Nat, q < s.heap.size → ¬ A q → U.heap[q]? = s.heap[q]?) → X A s → X B U
def PreX (X : (Nat → Prop) → State → Prop) (D : va_G) (q : Cq) (dm : List Nat) (kd ln ad : Nat → Nat) (V : Mv) (J : Mj) (R : Mr) (sz : Nat) (U : State) : Prop :=
  U.heap.size = sz ∧ wok (fun _ => True) D q dm kd ln ad V J R U.heap ∧ va_K D vwCl (tyq q) U ∧ X (va_A (wl q dm kd ln ad V J R) sz) U
def CtI (X : (Nat → Prop) → State → Prop) (l : Launch) (y : MethodName) (ws : List Cond) (rm : Room) (D : va_G) (q : Cq) (dm : List Nat) (kd ln ad : Nat → Nat) (V : Mv) (J : Mj) (R : Mr) (av : List Value) (rv : Int32) (V' : Mv) (J' : Mj) (R' : Mr) : Prop :=
  ∀ sz : Nat, Met l y ws rm (va_Pc av (PreX X D q dm kd ln ad V J R sz)) (va_Qi (fun (r : Int32) (_ : Unit) => r = rv) (fun _ t => va_P D vwCl (wl q dm kd ln ad V' J' R') t.heap) (va_A (wl q dm kd ln ad V J R) sz)) 0 0 (va_A (wl q dm kd ln ad V J R) sz)
def CtL (X : (Nat → Prop) → State → Prop) (l : Launch) (y : MethodName) (ws : List Cond) (rm : Room) (D : va_G) (q : Cq) (dm : List Nat) (kd ln ad : Nat → Nat) (V : Mv) (J : Mj) (R : Mr) (av : List Value) (rv : Int64) (V' : Mv) (J' : Mj) (R' : Mr) : Prop :=
  ∀ sz : Nat, Met l y ws rm (va_Pc av (PreX X D q dm kd ln ad V J R sz)) (va_Ql (fun (r : Int64) (_ : Unit) => r = rv) (fun _ t => va_P D vwCl (wl q dm kd ln ad V' J' R') t.heap) (va_A (wl q dm kd ln ad V J R) sz)) 0 0 (va_A (wl q dm kd ln ad V J R) sz)
def CtV (X : (Nat → Prop) → State → Prop) (l : Launch) (y : MethodName) (ws : List Cond) (rm : Room) (D : va_G) (q : Cq) (dm : List Nat) (kd ln ad : Nat → Nat) (V : Mv) (J : Mj) (R : Mr) (av : List Value) (V' : Mv) (J' : Mj) (R' : Mr) : Prop :=
  ∀ sz : Nat, Met l y ws rm (va_Pc av (PreX X D q dm kd ln ad V J R sz)) (va_Qv (fun (_ : Unit) => True) (fun _ t => va_P D vwCl (wl q dm kd ln ad V' J' R') t.heap) (va_A (wl q dm kd ln ad V J R) sz)) 0 0 (va_A (wl q dm kd ln ad V J R) sz)
def CtQ (X : (Nat → Prop) → State → Prop) (l : Launch) (y : MethodName) (ws : List Cond) (rm : Room) (D : va_G) (q : Cq) (dm : List Nat) (kd ln ad : Nat → Nat) (V : Mv) (J : Mj) (R : Mr) (av : List Value) (o : Option Nat) (V' : Mv) (J' : Mj) (R' : Mr) : Prop :=
  ∀ sz : Nat, Met l y ws rm (va_Pc av (PreX X D q dm kd ln ad V J R sz)) (va_Qq (fun (r : Option Nat) (_ : Unit) => r = o.map ad) (fun _ t => va_P D vwCl (wl q dm kd ln ad V' J' R') t.heap) (va_A (wl q dm kd ln ad V J R) sz)) 0 0 (va_A (wl q dm kd ln ad V J R) sz)
/-- what a body has at its entry -/
def bodyOf (X : (Nat → Prop) → State → Prop) (l : Launch) (y : MethodName) (ws : List Cond) (rm : Room) (D : va_G) (q : Cq) (dm : List Nat) (kd ln ad : Nat → Nat) (V : Mv) (J : Mj) (R : Mr) (av : List Value) (cc : ByteArray) (maxL : Nat) (ret : Option FieldType) (Qc : (Nat → Prop) → Array Value → State → Outcome → State → Prop) (mc ms : Nat) : Prop :=
  ∀ (p : Program) (e : Env) (s : State) (m : MethodId) (below : List Frame) (meth : Method) (c : Code) (A : Nat → Prop), p.tables.exec = Jvm.exec → c.code = cc → meth.sig.returnType = ret → c.maxLocals = maxL → (∀ w ∈ ws, w.before av.toArray s = true) → s.vm.findClass y.cls = some m.cls → meth.locks = false → meth.name = y.name → va_K D vwCl (tyq q) s → wok A D q dm kd ln ad V J R s.heap → (∀ q, s.heap.size ≤ q → A q) → X A s →
  ∀ ls : Array Slot, lv_has ls maxL (lv_args 0 av) → W p l e rm s m av.toArray below meth c s.heap [] 0 0 (MQ below (Qc A) av.toArray s mc ms A) (F0 m 0 ls [])
theorem met_of {X : (Nat → Prop) → State → Prop} {l : Launch} {y : MethodName} {ws ws' : List Cond} {rm : Room} {D : va_G} {q : Cq} {dm : List Nat} {kd ln ad : Nat → Nat} {V : Mv} {J : Mj} {R : Mr} {av : List Value} {cc : ByteArray} {maxL : Nat} {ret : Option FieldType} {Qc : (Nat → Prop) → Array Value → State → Outcome → State → Prop} {mc ms sz : Nat}
    (hy : plainName y.cls = true) (hw : ws = Cond.code y cc maxL ret :: ws') (hlen : (lg_sl av).length ≤ maxL) (body : bodyOf X l y ws rm D q dm kd ln ad V J R av cc maxL ret Qc mc ms) :
    Met l y ws rm (va_Pc av (PreX X D q dm kd ln ad V J R sz)) (Qc (va_A (wl q dm kd ln ad V J R) sz)) mc ms (va_A (wl q dm kd ln ad V J R) sz) := by
  refine Met.ofW (cc := cc) (maxL := maxL) (ret := ret) hy hw ?_
  intro p e s m args below meth c s₁ B hml hv
  obtain ⟨rfl, hsz, hW, hK, hXs⟩ := hv
  subst hsz
  have hl := lv_entry av (n := maxL) hlen
  rw [lg_entry_eq]
  exact body p e s m below meth c _ B.exec B.bytes B.returns hml (atoms_spec (ws := ws) B.pre) (findClass_of_methodNamed B.named) B.notSynchronized (name_of_methodNamed B.named B.method).1 hK ⟨hW.1, hW.2.self⟩ (fun q h => Or.inr h) hXs _ hl
abbrev QI (rv : Int32) (D : va_G) (q : Cq) (dm : List Nat) (kd ln ad : Nat → Nat) (V' : Mv) (J' : Mj) (R' : Mr) : (Nat → Prop) → Array Value → State → Outcome → State → Prop := fun A => va_Qi (fun (r : Int32) (_ : Unit) => r = rv) (fun _ t => va_P D vwCl (wl q dm kd ln ad V' J' R') t.heap) A
abbrev QL (rv : Int64) (D : va_G) (q : Cq) (dm : List Nat) (kd ln ad : Nat → Nat) (V' : Mv) (J' : Mj) (R' : Mr) : (Nat → Prop) → Array Value → State → Outcome → State → Prop := fun A => va_Ql (fun (r : Int64) (_ : Unit) => r = rv) (fun _ t => va_P D vwCl (wl q dm kd ln ad V' J' R') t.heap) A
abbrev QV (D : va_G) (q : Cq) (dm : List Nat) (kd ln ad : Nat → Nat) (V' : Mv) (J' : Mj) (R' : Mr) : (Nat → Prop) → Array Value → State → Outcome → State → Prop := fun A => va_Qv (fun (_ : Unit) => True) (fun _ t => va_P D vwCl (wl q dm kd ln ad V' J' R') t.heap) A
abbrev QQ (o : Option Nat) (D : va_G) (q : Cq) (dm : List Nat) (kd ln ad : Nat → Nat) (V' : Mv) (J' : Mj) (R' : Mr) : (Nat → Prop) → Array Value → State → Outcome → State → Prop := fun A => va_Qq (fun (r : Option Nat) (_ : Unit) => r = o.map ad) (fun _ t => va_P D vwCl (wl q dm kd ln ad V' J' R') t.heap) A
section Ends
variable {X : (Nat → Prop) → State → Prop} {l : Launch} {y : MethodName} {ws ws' : List Cond} {rm : Room} {D : va_G} {q : Cq} {dm : List Nat} {kd ln ad : Nat → Nat} {V V' : Mv} {J J' : Mj} {R R' : Mr} {av : List Value} {cc : ByteArray} {maxL : Nat} {ret : Option FieldType}
theorem CtI_of {rv : Int32} (hy : plainName y.cls = true) (hw : ws = Cond.code y cc maxL ret :: ws') (hlen : (lg_sl av).length ≤ maxL) (body : bodyOf X l y ws rm D q dm kd ln ad V J R av cc maxL ret (QI rv D q dm kd ln ad V' J' R') 0 0) : CtI X l y ws rm D q dm kd ln ad V J R av rv V' J' R' := fun _ => met_of hy hw hlen body
theorem CtL_of {rv : Int64} (hy : plainName y.cls = true) (hw : ws = Cond.code y cc maxL ret :: ws') (hlen : (lg_sl av).length ≤ maxL) (body : bodyOf X l y ws rm D q dm kd ln ad V J R av cc maxL ret (QL rv D q dm kd ln ad V' J' R') 0 0) : CtL X l y ws rm D q dm kd ln ad V J R av rv V' J' R' := fun _ => met_of hy hw hlen body
theorem CtV_of (hy : plainName y.cls = true) (hw : ws = Cond.code y cc maxL ret :: ws') (hlen : (lg_sl av).length ≤ maxL) (body : bodyOf X l y ws rm D q dm kd ln ad V J R av cc maxL ret (QV D q dm kd ln ad V' J' R') 0 0) : CtV X l y ws rm D q dm kd ln ad V J R av V' J' R' := fun _ => met_of hy hw hlen body
theorem CtQ_of {o : Option Nat} (hy : plainName y.cls = true) (hw : ws = Cond.code y cc maxL ret :: ws') (hlen : (lg_sl av).length ≤ maxL) (body : bodyOf X l y ws rm D q dm kd ln ad V J R av cc maxL ret (QQ o D q dm kd ln ad V' J' R') 0 0) : CtQ X l y ws rm D q dm kd ln ad V J R av o V' J' R' := fun _ => met_of hy hw hlen body
variable {p : Program} {e : Env} {Rm : Room} {s : State} {m : MethodId} {args : Array Value} {below : List Frame} {meth : Method} {c : Code} {H : Heap} {locs : List Loc} {cells slots : Nat} {Q : State → Prop} {pc : Nat} {ls : Array Slot} {rest : List Value} {A : Nat → Prop}
theorem w_iret (hx : p.tables.exec = Jvm.exec) (hb : c.code = cc) (hr : meth.sig.returnType = some .int) (hlk : meth.locks = false) (hW : wok A D q dm kd ln ad V J R H) (hS : va_S A s.heap H locs) {v rv : Int32} (ev : v = rv) (eV : V = V') (eJ : J = J') (eR : R = R') (hdg : decode cc pc = .ok (.ireturn, 1)) : W p l e Rm s m args below meth c H locs cells slots (MQ below (QI rv D q dm kd ln ad V' J' R' A) args s cells slots A) (F0 m pc ls [.int v]) := by
  subst ev eV eJ eR
  exact W.iret hx hb hr (fun t ht _ => ⟨⟨v, (), rfl, rfl, by show va_P _ _ _ t.heap; rw [ht]; exact hW.1⟩, hS.F ht⟩) hS.2.2 hdg hlk
theorem w_zret (hx : p.tables.exec = Jvm.exec) (hb : c.code = cc) (hr : meth.sig.returnType = some .boolean) (hlk : meth.locks = false) (hW : wok A D q dm kd ln ad V J R H) (hS : va_S A s.heap H locs) {v rv : Int32} (hz : v = 0 ∨ v = 1) (ev : v = rv) (eV : V = V') (eJ : J = J') (eR : R = R') (hdg : decode cc pc = .ok (.ireturn, 1)) : W p l e Rm s m args below meth c H locs cells slots (MQ below (QI rv D q dm kd ln ad V' J' R' A) args s cells slots A) (F0 m pc ls [.int v]) := by
  subst ev eV eJ eR
  have hn : narrow .boolean (.int v) = .int v := by rcases hz with rfl | rfl <;> decide
  exact W.zret hx hb hr hn (fun t ht _ => ⟨⟨v, (), rfl, rfl, by show va_P _ _ _ t.heap; rw [ht]; exact hW.1⟩, hS.F ht⟩) hS.2.2 hdg hlk
theorem w_lret (hx : p.tables.exec = Jvm.exec) (hb : c.code = cc) (hr : meth.sig.returnType = some .long) (hlk : meth.locks = false) (hW : wok A D q dm kd ln ad V J R H) (hS : va_S A s.heap H locs) {v rv : Int64} (ev : v = rv) (eV : V = V') (eJ : J = J') (eR : R = R') (hdg : decode cc pc = .ok (.lreturn, 1)) : W p l e Rm s m args below meth c H locs cells slots (MQ below (QL rv D q dm kd ln ad V' J' R' A) args s cells slots A) (F0 m pc ls [.long v]) := by
  subst ev eV eJ eR
  exact W.lret hx hb hr (fun t ht _ => ⟨⟨v, (), rfl, rfl, by show va_P _ _ _ t.heap; rw [ht]; exact hW.1⟩, hS.F ht⟩) hS.2.2 hdg hlk
theorem w_vret (hx : p.tables.exec = Jvm.exec) (hb : c.code = cc) (hr : meth.sig.returnType = none) (hlk : meth.locks = false) (hW : wok A D q dm kd ln ad V J R H) (hS : va_S A s.heap H locs) (eV : V = V') (eJ : J = J') (eR : R = R') (hdg : decode cc pc = .ok (.return_, 1)) : W p l e Rm s m args below meth c H locs cells slots (MQ below (QV D q dm kd ln ad V' J' R' A) args s cells slots A) (F0 m pc ls []) := by
  subst eV eJ eR
  exact W.vret hx hb hr (fun t ht _ => ⟨⟨(), rfl, trivial, by show va_P _ _ _ t.heap; rw [ht]; exact hW.1⟩, hS.F ht⟩) hS.2.2 hdg hlk
theorem w_qret (hx : p.tables.exec = Jvm.exec) (hb : c.code = cc) {rt : FieldType} (hr : meth.sig.returnType = some rt) (hrt : (∃ n, rt = .object n) ∨ ∃ t, rt = .array t) (hlk : meth.locks = false) (hW : wok A D q dm kd ln ad V J R H) (hS : va_S A s.heap H locs) {v : Value} {o : Option Nat} (ev : v = va_rf (o.map ad)) (eV : V = V') (eJ : J = J') (eR : R = R') (hdg : decode cc pc = .ok (.areturn, 1)) : W p l e Rm s m args below meth c H locs cells slots (MQ below (QQ o D q dm kd ln ad V' J' R' A) args s cells slots A) (F0 m pc ls [v]) := by
  subst ev eV eJ eR
  exact W.aret hx hb hr hrt (va_rf_or _) (fun t ht _ => ⟨⟨o.map ad, (), rfl, rfl, by show va_P _ _ _ t.heap; rw [ht]; exact hW.1⟩, hS.F ht⟩) hS.2.2 hdg hlk
variable {bytes : ByteArray} {nL mc ms n index : Nat} {Ts : List Cond} {own C : String} {b : Nat} {As st0 : List Value} {Qc : (Nat → Prop) → Array Value → State → Outcome → State → Prop}
theorem w_rcv {k ci : Nat} {T : u_T} {N : Nat} (hK : va_K D vwCl (tyq q) s) (hW : wok A D q dm kd ln ad V J R H) (hk : k ∈ dm) (hd : kd k = ci) (hci : ci < 10) (hc : vwCl[ci]? = some (C, T, N)) : ∃ cell : Cell, H[ad k]? = some cell ∧ cell.vm.isStatics = false ∧ s.vm.findClass C = some cell.cls := by
  obtain ⟨i, h1, h2⟩ := wl_at (q := q) (kd := kd) (ln := ln) (ad := ad) V J R hk
  rw [ce_o hd hci] at h2
  exact va_recv hK hW.1 hc h2
theorem preX_blind (hxo : xok X) {sz : Nat} : FrameBlind (va_Pc av (PreX X D q dm kd ln ad V J R sz)) := by
  intro a U g mk h
  obtain ⟨h1, h2, h3, h4, h5⟩ := h
  exact ⟨h1, h2, h3, va_K.moved (u := U) (U := U.calling g mk a) (Vm.Alike.refl U.vm) h4, hxo.1 _ _ _ _ _ h5⟩
theorem w_free (hW : wok A D q dm kd ln ad V J R H) (hS : va_S A s.heap H locs) (hA : ∀ q, s.heap.size ≤ q → A q) : ∀ a, va_A (wl q dm kd ln ad V J R) H.size a → A a := by
  intro a h
  rcases h with ⟨k, x, h⟩ | h
  · exact hW.2.2 k (a, x) h
  · exact hA a (Nat.le_trans hS.1 h)
theorem preX_at (hxo : xok X) (hK : va_K D vwCl (tyq q) s) (hW : wok A D q dm kd ln ad V J R H) (hS : va_S A s.heap H locs) (hA : ∀ q, s.heap.size ≤ q → A q) (hXs : X A s) (U : State) (hU : U.heap = H) (hWm : s.WarmedH U.vm) : va_Pc av (PreX X D q dm kd ln ad V J R H.size) av.toArray U := by
  refine ⟨rfl, by rw [hU], by rw [hU]; exact ⟨hW.1, hW.2.weaken (fun _ _ _ _ => trivial)⟩, va_K.moved hWm.alike hK, ?_⟩
  exact hxo.2 A _ s U (w_free hW hS hA) hWm (by rw [hU]; exact hS.1) (fun a h1 h2 => by rw [hU]; exact hS.2.1 a h1 h2) hXs
theorem w_runV (S : CallFix p m c cc nL s args Ts own) (hM : ∀ sz : Nat, Met l y ws rm (va_Pc (.ref b :: As) (PreX X D q dm kd ln ad V J R sz)) (Qc (va_A (wl q dm kd ln ad V J R) sz)) mc ms (va_A (wl q dm kd ln ad V J R) sz)) (hxo : xok X) (cw : CallW Rm s args own C index y bytes maxL ret ws rm mc ms n) (hK : va_K D vwCl (tyq q) s) (hW : wok A D q dm kd ln ad V J R H) (hS : va_S A s.heap H locs) (hA : ∀ q, s.heap.size ≤ q → A q) (hXs : X A s) (hrc : ∃ cell : Cell, H[b]? = some cell ∧ cell.vm.isStatics = false ∧ s.vm.findClass C = some cell.cls)
    (hn : As.length = n) (hsize : ls.size = nL) (hst : st0 = As.reverse ++ .ref b :: rest) (h8 : (rest.map fun v => v.category).sum ≤ 8) (hdg : decode cc pc = .ok (.invokevirtual index, 3)) (hf : cells + mc ≤ Rm.cells ∧ slots + ms ≤ Rm.slots) :
    va_Run p l e Rm s m args below meth c H locs cells slots mc ms (F0 m pc ls st0) rest (Qc (va_A (wl q dm kd ln ad V J R) H.size) (Value.ref b :: As).toArray) (va_A (wl q dm kd ln ad V J R) H.size) :=
  va_runV S (hM H.size) cw ⟨preX_blind hxo, hrc, fun U hU hWm => preX_at hxo hK hW hS hA hXs U hU hWm⟩ rfl hn hsize hst (lv_room h8) hdg hf
theorem w_runS (S : CallFix p m c cc nL s args Ts own) (hM : ∀ sz : Nat, Met l y ws rm (va_Pc As (PreX X D q dm kd ln ad V J R sz)) (Qc (va_A (wl q dm kd ln ad V J R) sz)) mc ms (va_A (wl q dm kd ln ad V J R) sz)) (hxo : xok X) (cw : CallB Rm s args own index y bytes maxL ret ws rm mc ms n ∧ (Cond.static y).before args s = true) (hK : va_K D vwCl (tyq q) s) (hW : wok A D q dm kd ln ad V J R H) (hS : va_S A s.heap H locs) (hA : ∀ q, s.heap.size ≤ q → A q) (hXs : X A s)
    (hn : As.length = n) (hsize : ls.size = nL) (hst : st0 = As.reverse ++ rest) (h8 : (rest.map fun v => v.category).sum ≤ 8) (hdg : decode cc pc = .ok (.invokestatic index, 3)) (hf : cells + mc ≤ Rm.cells ∧ slots + ms ≤ Rm.slots) :
    va_Run p l e Rm s m args below meth c H locs cells slots mc ms (F0 m pc ls st0) rest (Qc (va_A (wl q dm kd ln ad V J R) H.size) As.toArray) (va_A (wl q dm kd ln ad V J R) H.size) :=
  va_runS S (hM H.size) cw ⟨preX_blind hxo, fun U hU hWm => preX_at hxo hK hW hS hA hXs U hU hWm⟩ rfl hn hsize hst (lv_room h8) hdg hf
variable {a : Array Value}
theorem w_ci {rv : Int32} (hr : va_Run p l e Rm s m args below meth c H locs cells slots 0 0 (F0 m pc ls st0) rest (QI rv D q dm kd ln ad V' J' R' (va_A (wl q dm kd ln ad V J R) H.size) a) (va_A (wl q dm kd ln ad V J R) H.size)) (hW : wok A D q dm kd ln ad V J R H) (hS : va_S A s.heap H locs) (hA : ∀ q, s.heap.size ≤ q → A q)
    (kk : ∀ (H1 : Heap) (locs1 : List Loc), wok A D q dm kd ln ad V' J' R' H1 → va_S A s.heap H1 locs1 → W p l e Rm s m args below meth c H1 locs1 cells slots Q (F0 m (pc + 3) ls (.int rv :: rest))) : W p l e Rm s m args below meth c H locs cells slots Q (F0 m pc ls st0) := by
  refine va_calli hr hS (fun a _ h => w_free hW hS hA a h) (w_free hW hS hA) (fun r u t H1 locs1 ht hvm hp hB hz hk1 hS1 => ?_)
  subst hp
  exact kk H1 locs1 ⟨by rw [← ht]; exact hB, wl_D hW.2⟩ hS1
theorem w_cl {rv : Int64} (hr : va_Run p l e Rm s m args below meth c H locs cells slots 0 0 (F0 m pc ls st0) rest (QL rv D q dm kd ln ad V' J' R' (va_A (wl q dm kd ln ad V J R) H.size) a) (va_A (wl q dm kd ln ad V J R) H.size)) (hW : wok A D q dm kd ln ad V J R H) (hS : va_S A s.heap H locs) (hA : ∀ q, s.heap.size ≤ q → A q)
    (kk : ∀ (H1 : Heap) (locs1 : List Loc), wok A D q dm kd ln ad V' J' R' H1 → va_S A s.heap H1 locs1 → W p l e Rm s m args below meth c H1 locs1 cells slots Q (F0 m (pc + 3) ls (.long rv :: rest))) : W p l e Rm s m args below meth c H locs cells slots Q (F0 m pc ls st0) := by
  refine va_calll hr hS (fun a _ h => w_free hW hS hA a h) (w_free hW hS hA) (fun r u t H1 locs1 ht hvm hp hB hz hk1 hS1 => ?_)
  subst hp
  exact kk H1 locs1 ⟨by rw [← ht]; exact hB, wl_D hW.2⟩ hS1
theorem w_cv (hr : va_Run p l e Rm s m args below meth c H locs cells slots 0 0 (F0 m pc ls st0) rest (QV D q dm kd ln ad V' J' R' (va_A (wl q dm kd ln ad V J R) H.size) a) (va_A (wl q dm kd ln ad V J R) H.size)) (hW : wok A D q dm kd ln ad V J R H) (hS : va_S A s.heap H locs) (hA : ∀ q, s.heap.size ≤ q → A q)
    (kk : ∀ (H1 : Heap) (locs1 : List Loc), wok A D q dm kd ln ad V' J' R' H1 → va_S A s.heap H1 locs1 → W p l e Rm s m args below meth c H1 locs1 cells slots Q (F0 m (pc + 3) ls rest)) : W p l e Rm s m args below meth c H locs cells slots Q (F0 m pc ls st0) := by
  refine va_callv hr hS (fun a _ h => w_free hW hS hA a h) (w_free hW hS hA) (fun u t H1 locs1 ht hvm hp hB hz hk1 hS1 => ?_)
  exact kk H1 locs1 ⟨by rw [← ht]; exact hB, wl_D hW.2⟩ hS1
theorem w_cq {o : Option Nat} (hr : va_Run p l e Rm s m args below meth c H locs cells slots 0 0 (F0 m pc ls st0) rest (QQ o D q dm kd ln ad V' J' R' (va_A (wl q dm kd ln ad V J R) H.size) a) (va_A (wl q dm kd ln ad V J R) H.size)) (hW : wok A D q dm kd ln ad V J R H) (hS : va_S A s.heap H locs) (hA : ∀ q, s.heap.size ≤ q → A q)
    (kk : ∀ (H1 : Heap) (locs1 : List Loc), wok A D q dm kd ln ad V' J' R' H1 → va_S A s.heap H1 locs1 → W p l e Rm s m args below meth c H1 locs1 cells slots Q (F0 m (pc + 3) ls (va_rf (o.map ad) :: rest))) : W p l e Rm s m args below meth c H locs cells slots Q (F0 m pc ls st0) := by
  refine va_callq hr hS (fun a _ h => w_free hW hS hA a h) (w_free hW hS hA) (fun r u t H1 locs1 ht hvm hp hB hz hk1 hS1 => ?_)
  subst hp
  exact kk H1 locs1 ⟨by rw [← ht]; exact hB, wl_D hW.2⟩ hS1
end Ends
end
section
/-- a truth as an int -/
def bz (P : Prop) [Decidable P] : Int32 := if P then 1 else 0
theorem bz_t {P : Prop} [Decidable P] (h : P) : bz P = 1 := if_pos h
theorem bz_f {P : Prop} [Decidable P] (h : ¬ P) : bz P = 0 := if_neg h
theorem bz_or (P : Prop) [Decidable P] : bz P = 0 ∨ bz P = 1 := by
  by_cases h : P
  · exact Or.inr (bz_t h)
  · exact Or.inl (bz_f h)
theorem bz_0 {P : Prop} [Decidable P] : bz P = 0 ↔ ¬ P := by
  by_cases h : P
  · rw [bz_t h]
    exact ⟨fun e => absurd e (by decide), fun e => absurd h e⟩
  · rw [bz_f h]
    exact ⟨fun _ => h, fun _ => rfl⟩
theorem bz_nar (P : Prop) [Decidable P] : narrow .boolean (.int (bz P)) = .int (bz P) := by
  rcases bz_or P with h | h <;> rw [h] <;> decide
theorem bz_vnar (P : Prop) [Decidable P] : vp_nar .boolean (bz P) = bz P := by
  rcases bz_or P with h | h <;> rw [h] <;> decide
theorem i32_ne {x n : Int32} (h : ¬ x = n) : x.toInt ≠ n.toInt := fun e => h (Int32.toInt_inj.mp e)
theorem i32_neL {x n : Int32} {k : Int} (h : ¬ x = n) (hk : n.toInt = k) : x.toInt ≠ k := fun e => i32_ne h (by rw [hk]; exact e)
theorem sw_out3' {x a b c : Int32} {lo hi : Int} (h1 : ¬ x = a) (h2 : ¬ x = b) (h3 : ¬ x = c) (ha : a.toInt = lo) (hb : b.toInt = lo + 1) (hc : c.toInt = lo + 2) (hh : hi = lo + 2) : x.toInt < lo ∨ hi < x.toInt := by
  have := i32_ne h1
  have := i32_ne h2
  have := i32_ne h3
  omega
theorem sw_any {x : Int32} {lo hi : Int} (h : ∀ y : Int, lo ≤ y → y ≤ hi → x.toInt ≠ y) : x.toInt < lo ∨ hi < x.toInt := by
  rcases Int.lt_or_le x.toInt lo with h1 | h1
  · exact Or.inl h1
  · rcases Int.lt_or_le hi x.toInt with h2 | h2
    · exact Or.inr h2
    · exact absurd rfl (h x.toInt h1 h2)
section Rows2
variable {p : Program} {l : Launch} {e : Env} {Rm : Room} {s : State} {m : MethodId} {args : Array Value} {below : List Frame} {meth : Method} {c : Code} {H H0 : Heap} {locs : List Loc} {cells slots : Nat} {Q : State → Prop} {cc : ByteArray} {pc : Nat} {ls : Array Slot} {rest : List Value} {A : Nat → Prop} {D : va_G} {q : Cq} {dm : List Nat} {kd ln ad : Nat → Nat} {V : Mv} {J : Mj} {R : Mr}
theorem w_i {x y : Int32} (h : x = y) (kk : W p l e Rm s m args below meth c H locs cells slots Q (F0 m pc ls (.int y :: rest))) : W p l e Rm s m args below meth c H locs cells slots Q (F0 m pc ls (.int x :: rest)) := by
  rw [h]
  exact kk
theorem w_j {x y : Int64} (h : x = y) (kk : W p l e Rm s m args below meth c H locs cells slots Q (F0 m pc ls (.long y :: rest))) : W p l e Rm s m args below meth c H locs cells slots Q (F0 m pc ls (.long x :: rest)) := by
  rw [h]
  exact kk
theorem w_ifz (hx : p.tables.exec = Jvm.exec) (hb : c.code = cc) {P : Prop} [Decidable P] {off : Int} {tgt : Nat} (hdg : decode cc pc = .ok (.ifCond .eq off, 3)) (ht : (pc : Int) + off = (tgt : Int)) (kt : ¬ P → W p l e Rm s m args below meth c H locs cells slots Q (F0 m tgt ls rest)) (kf : P → W p l e Rm s m args below meth c H locs cells slots Q (F0 m (pc + 3) ls rest)) : W p l e Rm s m args below meth c H locs cells slots Q (F0 m pc ls (.int (bz P) :: rest)) :=
  lv_if_eq hx hb hdg ht (fun h => kt (bz_0.mp h)) (fun h => kf (Decidable.not_not.mp (fun hn => h (bz_0.mpr hn))))
theorem w_ifnz (hx : p.tables.exec = Jvm.exec) (hb : c.code = cc) {P : Prop} [Decidable P] {off : Int} {tgt : Nat} (hdg : decode cc pc = .ok (.ifCond .ne off, 3)) (ht : (pc : Int) + off = (tgt : Int)) (kt : P → W p l e Rm s m args below meth c H locs cells slots Q (F0 m tgt ls rest)) (kf : ¬ P → W p l e Rm s m args below meth c H locs cells slots Q (F0 m (pc + 3) ls rest)) : W p l e Rm s m args below meth c H locs cells slots Q (F0 m pc ls (.int (bz P) :: rest)) :=
  lv_if_ne hx hb hdg ht (fun h => kt (Decidable.not_not.mp (fun hn => h (bz_0.mpr hn)))) (fun h => kf (bz_0.mp h))
theorem lg_lt0 (x y : Int64) : lg_cmp x y < 0 ↔ x < y := by
  unfold lg_cmp
  simp only [gt_iff_lt, Int64.lt_iff_toInt_lt, ← Int64.toInt_inj]
  by_cases h : y.toInt < x.toInt
  · rw [if_pos h]
    exact ⟨fun q => absurd q (by decide), fun q => by omega⟩
  · rw [if_neg h]
    by_cases h2 : x.toInt = y.toInt
    · rw [if_pos h2]
      exact ⟨fun q => absurd q (by decide), fun q => by omega⟩
    · rw [if_neg h2]
      exact ⟨fun _ => by omega, fun _ => by decide⟩
theorem lg_gt0 (x y : Int64) : 0 < lg_cmp x y ↔ y < x := by
  unfold lg_cmp
  simp only [gt_iff_lt, Int64.lt_iff_toInt_lt, ← Int64.toInt_inj]
  by_cases h : y.toInt < x.toInt
  · rw [if_pos h]
    exact ⟨fun _ => h, fun _ => by decide⟩
  · rw [if_neg h]
    by_cases h2 : x.toInt = y.toInt
    · rw [if_pos h2]
      exact ⟨fun q => absurd q (by decide), fun q => absurd q h⟩
    · rw [if_neg h2]
      exact ⟨fun q => absurd q (by decide), fun q => absurd q h⟩
theorem w_lclt (hx : p.tables.exec = Jvm.exec) (hb : c.code = cc) {x y : Int64} {off : Int} {tgt : Nat} (hdg : decode cc pc = .ok (.ifCond .lt off, 3)) (ht : (pc : Int) + off = (tgt : Int)) (kt : x < y → W p l e Rm s m args below meth c H locs cells slots Q (F0 m tgt ls rest)) (kf : ¬ x < y → W p l e Rm s m args below meth c H locs cells slots Q (F0 m (pc + 3) ls rest)) : W p l e Rm s m args below meth c H locs cells slots Q (F0 m pc ls (.int (lg_cmp x y) :: rest)) :=
  lv_if_lt hx hb hdg ht (fun h => kt ((lg_lt0 x y).mp h)) (fun h => kf (fun z => h ((lg_lt0 x y).mpr z)))
theorem w_lcgt (hx : p.tables.exec = Jvm.exec) (hb : c.code = cc) {x y : Int64} {off : Int} {tgt : Nat} (hdg : decode cc pc = .ok (.ifCond .gt off, 3)) (ht : (pc : Int) + off = (tgt : Int)) (kt : y < x → W p l e Rm s m args below meth c H locs cells slots Q (F0 m tgt ls rest)) (kf : ¬ y < x → W p l e Rm s m args below meth c H locs cells slots Q (F0 m (pc + 3) ls rest)) : W p l e Rm s m args below meth c H locs cells slots Q (F0 m pc ls (.int (lg_cmp x y) :: rest)) :=
  lv_if_gt hx hb hdg ht (fun h => kt ((lg_gt0 x y).mp h)) (fun h => kf (fun z => h ((lg_gt0 x y).mpr z)))
theorem w_cast (hx : p.tables.exec = Jvm.exec) (hb : c.code = cc) {own C : String} {T : u_T} {N ci index k : Nat} (hown : s.vm.findClass own = some m.cls) (hlink : (Cond.classLink own index C).before args s = true) (hK : va_K D vwCl (tyq q) s) (hW : wok A D q dm kd ln ad V J R H) (hk : k ∈ dm) (hd : kd k = ci) (hci : ci < 10) (hc : vwCl[ci]? = some (C, T, N)) (hdg : decode cc pc = .ok (.checkcast index, 3))
    (kk : W p l e Rm s m args below meth c H locs cells slots Q (F0 m (pc + 3) ls (.ref (ad k) :: rest))) : W p l e Rm s m args below meth c H locs cells slots Q (F0 m pc ls (.ref (ad k) :: rest)) :=
  va_castS hx hb hown hlink (hK.1 ci _ hc).2 (w_rcv hK hW hk hd hci hc) hdg kk
theorem w_ialdN {t : Nat} (hx : p.tables.exec = Jvm.exec) (hb : c.code = cc) (hK : va_K D vwCl (tyq q) s) (hW : wok A D q dm kd ln ad V J R H) {k : Nat} (hk : k ∈ dm) (hd : kd k = 10) (hin : t < ln k ∧ t < 2147483648) (hdg : decode cc pc = .ok (.iaload, 1))
    (kk : W p l e Rm s m args below meth c H locs cells slots Q (F0 m (pc + 1) ls (.int (V k t) :: rest))) : W p l e Rm s m args below meth c H locs cells slots Q (F0 m pc ls (.int (nI t) :: .ref (ad k) :: rest)) := by
  refine w_iald hx hb hK hW hk hd (i := nI t) (vp_in_iff.mpr (by rw [nI_toInt hin.2]; exact ⟨by omega, by have := hin.1; omega⟩)) hdg ?_
  rw [nI_clamp hin.2]
  exact kk
theorem w_baldN {t : Nat} (hx : p.tables.exec = Jvm.exec) (hb : c.code = cc) (hK : va_K D vwCl (tyq q) s) (hW : wok A D q dm kd ln ad V J R H) {k : Nat} (hk : k ∈ dm) (hd : kd k = 11) (hin : t < ln k ∧ t < 2147483648) (hdg : decode cc pc = .ok (.baload, 1))
    (kk : W p l e Rm s m args below meth c H locs cells slots Q (F0 m (pc + 1) ls (.int (V k t) :: rest))) : W p l e Rm s m args below meth c H locs cells slots Q (F0 m pc ls (.int (nI t) :: .ref (ad k) :: rest)) := by
  refine w_bald hx hb hK hW hk hd (i := nI t) (vp_in_iff.mpr (by rw [nI_toInt hin.2]; exact ⟨by omega, by have := hin.1; omega⟩)) hdg ?_
  rw [nI_clamp hin.2]
  exact kk
theorem w_zaldN {t : Nat} (hx : p.tables.exec = Jvm.exec) (hb : c.code = cc) (hK : va_K D vwCl (tyq q) s) (hW : wok A D q dm kd ln ad V J R H) {k : Nat} (hk : k ∈ dm) (hd : kd k = 12) (hin : t < ln k ∧ t < 2147483648) (hdg : decode cc pc = .ok (.baload, 1))
    (kk : W p l e Rm s m args below meth c H locs cells slots Q (F0 m (pc + 1) ls (.int (V k t) :: rest))) : W p l e Rm s m args below meth c H locs cells slots Q (F0 m pc ls (.int (nI t) :: .ref (ad k) :: rest)) := by
  refine w_zald hx hb hK hW hk hd (i := nI t) (vp_in_iff.mpr (by rw [nI_toInt hin.2]; exact ⟨by omega, by have := hin.1; omega⟩)) hdg ?_
  rw [nI_clamp hin.2]
  exact kk
theorem w_aaldN {t : Nat} (hx : p.tables.exec = Jvm.exec) (hb : c.code = cc) (hK : va_K D vwCl (tyq q) s) (hW : wok A D q dm kd ln ad V J R H) {k : Nat} (hk : k ∈ dm) (hd : kd k = 13) (hin : t < ln k ∧ t < 2147483648) (hdg : decode cc pc = .ok (.aaload, 1))
    (kk : W p l e Rm s m args below meth c H locs cells slots Q (F0 m (pc + 1) ls (va_rf ((R k t).map ad) :: rest))) : W p l e Rm s m args below meth c H locs cells slots Q (F0 m pc ls (.int (nI t) :: .ref (ad k) :: rest)) := by
  refine w_aald hx hb hK hW hk hd (i := nI t) (vp_in_iff.mpr (by rw [nI_toInt hin.2]; exact ⟨by omega, by have := hin.1; omega⟩)) hdg ?_
  rw [nI_clamp hin.2]
  exact kk
theorem w_iastN {t : Nat} (hx : p.tables.exec = Jvm.exec) (hb : c.code = cc) (hK : va_K D vwCl (tyq q) s) (hW : wok A D q dm kd ln ad V J R H) (hS : va_S A H0 H locs) {k : Nat} (hk : k ∈ dm) (hd : kd k = 10) {x : Int32} (hin : t < ln k ∧ t < 2147483648) (hdg : decode cc pc = .ok (.iastore, 1))
    (kk : ∀ (H1 : Heap) (locs1 : List Loc), wok A D q dm kd ln ad (u2 V k t x) J R H1 → va_S A H0 H1 locs1 → W p l e Rm s m args below meth c H1 locs1 cells slots Q (F0 m (pc + 1) ls rest)) : W p l e Rm s m args below meth c H locs cells slots Q (F0 m pc ls (.int x :: .int (nI t) :: .ref (ad k) :: rest)) := by
  refine w_iast hx hb hK hW hS hk hd (i := nI t) (vp_in_iff.mpr (by rw [nI_toInt hin.2]; exact ⟨by omega, by have := hin.1; omega⟩)) hdg (fun H1 locs1 h1 h2 => ?_)
  rw [nI_clamp hin.2] at h1
  exact kk H1 locs1 h1 h2
theorem w_bastN {t : Nat} (hx : p.tables.exec = Jvm.exec) (hb : c.code = cc) (hK : va_K D vwCl (tyq q) s) (hW : wok A D q dm kd ln ad V J R H) (hS : va_S A H0 H locs) {k : Nat} (hk : k ∈ dm) (hd : kd k = 11) {x : Int32} (hin : t < ln k ∧ t < 2147483648) (hdg : decode cc pc = .ok (.bastore, 1))
    (kk : ∀ (H1 : Heap) (locs1 : List Loc), wok A D q dm kd ln ad (u2 V k t (vp_nar .byte x)) J R H1 → va_S A H0 H1 locs1 → W p l e Rm s m args below meth c H1 locs1 cells slots Q (F0 m (pc + 1) ls rest)) : W p l e Rm s m args below meth c H locs cells slots Q (F0 m pc ls (.int x :: .int (nI t) :: .ref (ad k) :: rest)) := by
  refine w_bast hx hb hK hW hS hk hd (i := nI t) (vp_in_iff.mpr (by rw [nI_toInt hin.2]; exact ⟨by omega, by have := hin.1; omega⟩)) hdg (fun H1 locs1 h1 h2 => ?_)
  rw [nI_clamp hin.2] at h1
  exact kk H1 locs1 h1 h2
theorem w_zastN {t : Nat} (hx : p.tables.exec = Jvm.exec) (hb : c.code = cc) (hK : va_K D vwCl (tyq q) s) (hW : wok A D q dm kd ln ad V J R H) (hS : va_S A H0 H locs) {k : Nat} (hk : k ∈ dm) (hd : kd k = 12) {x : Int32} (hin : t < ln k ∧ t < 2147483648) (hdg : decode cc pc = .ok (.bastore, 1))
    (kk : ∀ (H1 : Heap) (locs1 : List Loc), wok A D q dm kd ln ad (u2 V k t (vp_nar .boolean x)) J R H1 → va_S A H0 H1 locs1 → W p l e Rm s m args below meth c H1 locs1 cells slots Q (F0 m (pc + 1) ls rest)) : W p l e Rm s m args below meth c H locs cells slots Q (F0 m pc ls (.int x :: .int (nI t) :: .ref (ad k) :: rest)) := by
  refine w_zast hx hb hK hW hS hk hd (i := nI t) (vp_in_iff.mpr (by rw [nI_toInt hin.2]; exact ⟨by omega, by have := hin.1; omega⟩)) hdg (fun H1 locs1 h1 h2 => ?_)
  rw [nI_clamp hin.2] at h1
  exact kk H1 locs1 h1 h2
end Rows2
end
section
/-- x is one of 0 .. n - 1 -/
abbrev inx (n : Nat) (x : Int32) : Prop := 0 ≤ x.toInt ∧ x.toInt < (n : Int)
theorem inx_c {n : Nat} {x : Int32} (h : inx n x) : x.toNatClampNeg < n ∧ x.toNatClampNeg < 2147483648 := by
  have h1 : x.toNatClampNeg = x.toInt.toNat := rfl
  have h2 := Int32.toInt_lt x
  obtain ⟨h3, h4⟩ := h
  omega
theorem inx_e {n : Nat} {x : Int32} (h : inx n x) : x = nI x.toNatClampNeg := by
  apply Int32.toInt_inj.mp
  rw [nI_toInt (inx_c h).2]
  have h1 : x.toNatClampNeg = x.toInt.toNat := rfl
  have := h.1
  omega
theorem inx_n {n t : Nat} (h : t < n) (hn : n < 2147483648) : inx n (nI t) := by
  have h1 := nI_toInt (n := t) (by omega)
  exact ⟨by omega, by omega⟩
theorem inx_v {n : Nat} {x : Int32} : vp_in x n ↔ inx n x := vp_in_iff
theorem nI_m1 {n : Nat} (hn : n < 1000000) : (nI n - 1).toInt = (n : Int) - 1 := by
  have h := pk_sub_toInt (a := n) (b := 1) (by omega) (by omega)
  exact h
theorem inx_w {n : Nat} {x : Int32} (hn : n < 1000000) : (0 ≤ x ∧ x ≤ nI n - 1) ↔ inx n x := by
  rw [Int32.le_iff_toInt_le, Int32.le_iff_toInt_le, nI_m1 hn]
  have h0 : (0 : Int32).toInt = 0 := by decide
  rw [h0]
  constructor
  · intro h; exact ⟨h.1, by omega⟩
  · intro h; exact ⟨h.1, by omega⟩
theorem inx_l {n : Nat} {x : Int32} (hn : n < 1000000) : ((0 : Int64) ≤ x.toInt64 ∧ x.toInt64 ≤ (nI n - 1).toInt64) ↔ inx n x := by
  rw [Int64.le_iff_toInt_le, Int64.le_iff_toInt_le, Int32.toInt_toInt64, Int32.toInt_toInt64, nI_m1 hn]
  have h0 : (0 : Int64).toInt = 0 := by decide
  rw [h0]
  constructor
  · intro h; exact ⟨h.1, by omega⟩
  · intro h; exact ⟨h.1, by omega⟩
theorem wid_l {x : Int32} {a b : Int64} {c d : Int32} (ha : a = c.toInt64) (hb : b = d.toInt64) : (a ≤ x.toInt64 ∧ x.toInt64 ≤ b) ↔ (c ≤ x ∧ x ≤ d) := by
  subst ha hb
  rw [Int64.le_iff_toInt_le, Int64.le_iff_toInt_le, Int32.toInt_toInt64, Int32.toInt_toInt64, Int32.toInt_toInt64, Int32.le_iff_toInt_le, Int32.le_iff_toInt_le]
/-! what the class's world is: labels 0 .. 15 fixed, 16 and 17 the lists' rows, 100 + i pipes, 200 + j dials -/
def xkd (k : Nat) : Nat := match k with
  | 0 => 8 | 1 => 0 | 2 => 0 | 3 => 3 | 4 => 2 | 5 => 10 | 6 => 10 | 7 => 10 | 8 => 6 | 9 => 11 | 10 => 5 | 11 => 10 | 12 => 10 | 13 => 10 | 14 => 7 | _ => 10
def xln (k : Nat) : Nat := match k with
  | 5 => 30 | 6 => 30 | 7 => 101 | 9 => 300 | 11 => 40 | 12 => 40 | 13 => 40 | 15 => 16 | _ => 0
def xrf (k j : Nat) : Option Nat := match k, j with
  | 0, 0 => some 1 | 0, 1 => some 2 | 0, 2 => some 3 | 0, 3 => some 4 | 0, 4 => some 8 | 0, 5 => some 10 | 0, 6 => some 14
  | 4, 0 => some 5 | 4, 1 => some 6 | 4, 2 => some 7 | 8, 0 => some 9 | 10, 0 => some 8 | 10, 1 => some 11 | 10, 2 => some 12 | 10, 3 => some 13 | 14, 0 => some 15
  | _, _ => none
def okX (dm : List Nat) (kd ln : Nat → Nat) (R : Mr) (nP nD : Nat) : Prop :=
  (∀ k, k < 16 → k ∈ dm ∧ kd k = xkd k ∧ ln k = xln k ∧ ∀ j t, xrf k j = some t → R k j = some t) ∧
  (nP ≤ 30 ∧ nD ≤ 40) ∧
  (∀ i, i < nP → 100 + i ∈ dm ∧ kd (100 + i) = 4 ∧ R 16 i = some (100 + i) ∧ (R (100 + i) 1 = none ∨ ∃ j, j < i ∧ R (100 + i) 1 = some (100 + j))) ∧
  (∀ j, j < nD → 200 + j ∈ dm ∧ kd (200 + j) = 1 ∧ R 17 j = some (200 + j) ∧ ∃ i, i < nP ∧ R (200 + j) 0 = some (100 + i)) ∧
  (0 < nP → 16 ∈ dm ∧ kd 16 = 13 ∧ nP ≤ ln 16 ∧ ln 16 ≤ 100 ∧ R 1 1 = some 16) ∧
  (0 < nD → 17 ∈ dm ∧ kd 17 = 13 ∧ nD ≤ ln 17 ∧ ln 17 ≤ 100 ∧ R 2 1 = some 17)
/-! what the reference's world is: 1000 the object, 1000 + j its row of slot j -/
def mkd (j : Nat) : Nat := match j with
  | 15 => 12 | 16 => 12 | 29 => 12 | _ => 10
def mln (j : Nat) : Nat := match j with
  | 2 => 30 | 3 => 30 | 4 => 30 | 5 => 30 | 6 => 30 | 27 => 30 | 28 => 30 | 30 => 900 | 31 => 300 | 46 => 16 | _ => 40
def mrw : List Nat := [2, 3, 4, 5, 6, 8, 9, 10, 11, 12, 13, 14, 15, 16, 17, 18, 19, 20, 27, 28, 29, 30, 31, 42, 43, 44, 45, 46]
def okM (dm : List Nat) (kd ln : Nat → Nat) (R : Mr) : Prop :=
  (1000 ∈ dm ∧ kd 1000 = 9) ∧ ∀ j, j ∈ mrw → 1000 + j ∈ dm ∧ kd (1000 + j) = mkd j ∧ ln (1000 + j) = mln j ∧ R 1000 j = some (1000 + j)
end
section
def x_kind (V : Mv) (k : Nat) : Int32 := if V k 6 < 10 then V k 2 else 3
def x_known (V : Mv) (k : Nat) : Mv := u2 (u2 V k 4 (V k 3)) k 5 0
def x_putOn (V : Mv) (k : Nat) (a : Int32) : Mv := u2 (u2 V k 3 (V k 3 - a)) k 4 (V k 4 - a)
def x_right (V : Mv) (k : Nat) : Mv := x_known (u2 (u2 V k 3 0) k 6 0) k
def x_begin (V : Mv) (k : Nat) (a b d : Int32) : Mv := u2 (u2 (u2 (u2 V k 8 a) k 9 b) k 10 d) k 11 0
def x_paid (V : Mv) (k : Nat) (mv : Int32) : Int32 := if V k 8 = 1 then 1 else if V k 8 = 2 then mv else if V k 8 = 3 then bz (V k 3 < V k 9) else 0
set_option maxHeartbeats 4000000 in
set_option maxRecDepth 100000 in
theorem c_X7_within {X : (Nat → Prop) → State → Prop} (hxo : xok X) (l : Launch) (D : va_G) (q : Cq) {dm : List Nat} {kd ln ad : Nat → Nat} (V : Mv) (J : Mj) (R : Mr) (v lo hi : Int32)  : CtI X l yX7_within wsX7_within ({ frames := 0, cells := 0, slots := 0, locals := 0 }) D q dm kd ln ad V J R [.int v, .int lo, .int hi] (bz (lo ≤ v ∧ v ≤ hi)) (V) (J) (R) := by
  refine CtI_of (cc := cX7_within) (maxL := 3) (ret := (some .boolean)) (by decide +kernel) rfl (Nat.le_of_ble_eq_true rfl) ?_
  intro p e s m below meth c A hx hb hr hml hts hown hlk hmn hK hW hA hXs ls hl
  have hS : va_S A s.heap s.heap [] := va_S.rf
  have hl : lv_has ls 3 [(0, .int v), (1, .int lo), (2, .int hi)] := hl
  refine lv_iload_n hx hb dX7_within_0 rfl (lv_at hl 0 rfl) ?_
  refine lv_iload_n hx hb dX7_within_1 rfl (lv_at hl 1 rfl) ?_
  refine lv_icmp_lt (tgt := 14) hx hb dX7_within_2 (by decide) (fun c_2 => ?_) (fun c_2 => ?_)
  · refine lv_iconst (v := 0) hx hb dX7_within_14 (by decide) ?_
    exact w_zret hx hb hr hlk hW hS (Or.inl rfl) (Eq.symm (bz_f (fun h => absurd c_2 (Int32.not_lt.mpr h.1)))) rfl rfl rfl dX7_within_15
  · refine lv_iload_n hx hb dX7_within_5 rfl (lv_at hl 0 rfl) ?_
    refine lv_iload_n hx hb dX7_within_6 rfl (lv_at hl 2 rfl) ?_
    refine lv_icmp_gt (tgt := 14) hx hb dX7_within_7 (by decide) (fun c_7 => ?_) (fun c_7 => ?_)
    · refine lv_iconst (v := 0) hx hb dX7_within_14 (by decide) ?_
      exact w_zret hx hb hr hlk hW hS (Or.inl rfl) (Eq.symm (bz_f (fun h => absurd c_7 (Int32.not_lt.mpr h.2)))) rfl rfl rfl dX7_within_15
    · refine lv_iconst (v := 1) hx hb dX7_within_10 (by decide) ?_
      refine lv_goto (tgt := 15) hx hb dX7_within_11 (by decide) ?_
      exact w_zret hx hb hr hlk hW hS (Or.inr rfl) (Eq.symm (bz_t ⟨Int32.not_lt.mp c_2, Int32.not_lt.mp c_7⟩)) rfl rfl rfl dX7_within_15
set_option maxHeartbeats 4000000 in
set_option maxRecDepth 100000 in
theorem c_X0_toldKind {X : (Nat → Prop) → State → Prop} (hxo : xok X) (l : Launch) (D : va_G) (q : Cq) {dm : List Nat} {kd ln ad : Nat → Nat} (V : Mv) (J : Mj) (R : Mr) (k : Nat) (hk : k ∈ dm) (hd : kd k = 1) : CtI X l yX0_toldKind wsX0_toldKind ({ frames := 0, cells := 0, slots := 0, locals := 0 }) D q dm kd ln ad V J R [.ref (ad k)] (x_kind V k) (V) (J) (R) := by
  refine CtI_of (cc := cX0_toldKind) (maxL := 1) (ret := (some .int)) (by decide +kernel) rfl (Nat.le_of_ble_eq_true rfl) ?_
  intro p e s m below meth c A hx hb hr hml hts hown hlk hmn hK hW hA hXs ls hl
  have hS : va_S A s.heap s.heap [] := va_S.rf
  have hl : lv_has ls 1 [(0, .ref (ad k))] := hl
  have hin_TX0 : ∀ w ∈ u_ws RX0 TX0 12, w ∈ wsX0_toldKind := by decide +kernel
  refine lv_aload_n hx hb dX0_toldKind_0 rfl (lv_at hl 0 rfl) ?_
  refine w_get (ci := 1) (T := TX0) hx hb hts hin_TX0 hown hK hW hk hd (by decide) rfl 6 (by decide) (hts (.fieldLink RX0 31 "TownClocks$Dial" "missedRunning" "I") (by decide +kernel)) (fun _ h9 => h9) rfl dX0_toldKind_1 ?_
  refine lv_bipush (v := 10) hx hb dX0_toldKind_4 (by decide) ?_
  refine lv_icmp_lt (tgt := 13) hx hb dX0_toldKind_6 (by decide) (fun c_6 => ?_) (fun c_6 => ?_)
  · refine lv_aload_n hx hb dX0_toldKind_13 rfl (lv_at hl 0 rfl) ?_
    refine w_get (ci := 1) (T := TX0) hx hb hts hin_TX0 hown hK hW hk hd (by decide) rfl 2 (by decide) (hts (.fieldLink RX0 19 "TownClocks$Dial" "sort" "I") (by decide +kernel)) (fun _ h9 => h9) rfl dX0_toldKind_14 ?_
    exact w_iret hx hb hr hlk hW hS (by first | rfl | (simp only [x_kind, c_6, ↓reduceIte]; done) | simp [bz, x_kind, c_6]) rfl rfl rfl dX0_toldKind_17
  · refine lv_iconst (v := 3) hx hb dX0_toldKind_9 (by decide) ?_
    refine lv_goto (tgt := 17) hx hb dX0_toldKind_10 (by decide) ?_
    exact w_iret hx hb hr hlk hW hS (by first | rfl | (simp only [x_kind, c_6, ↓reduceIte]; done) | simp [bz, x_kind, c_6]) rfl rfl rfl dX0_toldKind_17
set_option maxHeartbeats 4000000 in
set_option maxRecDepth 100000 in
theorem c_X0_becomeKnown {X : (Nat → Prop) → State → Prop} (hxo : xok X) (l : Launch) (D : va_G) (q : Cq) {dm : List Nat} {kd ln ad : Nat → Nat} (V : Mv) (J : Mj) (R : Mr) (k : Nat) (hk : k ∈ dm) (hd : kd k = 1) : CtV X l yX0_becomeKnown wsX0_becomeKnown ({ frames := 0, cells := 0, slots := 0, locals := 0 }) D q dm kd ln ad V J R [.ref (ad k)] (x_known V k) (J) (R) := by
  refine CtV_of (cc := cX0_becomeKnown) (maxL := 1) (ret := none) (by decide +kernel) rfl (Nat.le_of_ble_eq_true rfl) ?_
  intro p e s m below meth c A hx hb hr hml hts hown hlk hmn hK hW hA hXs ls hl
  have hS : va_S A s.heap s.heap [] := va_S.rf
  have hl : lv_has ls 1 [(0, .ref (ad k))] := hl
  have hin_TX0 : ∀ w ∈ u_ws RX0 TX0 12, w ∈ wsX0_becomeKnown := by decide +kernel
  refine lv_aload_n hx hb dX0_becomeKnown_0 rfl (lv_at hl 0 rfl) ?_
  refine lv_aload_n hx hb dX0_becomeKnown_1 rfl (lv_at hl 0 rfl) ?_
  refine w_get (ci := 1) (T := TX0) hx hb hts hin_TX0 hown hK hW hk hd (by decide) rfl 3 (by decide) (hts (.fieldLink RX0 34 "TownClocks$Dial" "late" "I") (by decide +kernel)) (fun _ h9 => h9) rfl dX0_becomeKnown_2 ?_
  refine w_puti (ci := 1) (T := TX0) (ty := .int) hx hb hts hin_TX0 tyX0 tyX0_ok nmX0 hown hK hW hS hk hd (by decide) rfl 4 (by decide) (hts (.fieldLink RX0 53 "TownClocks$Dial" "knownLeast" "I") (by decide +kernel)) (fun _ h9 => h9) rfl (tyX0_ok 4 (by decide)) rfl rfl (Nat.le_of_ble_eq_true rfl) rfl dX0_becomeKnown_5 (fun H locs hW hS => ?_)
  refine lv_aload_n hx hb dX0_becomeKnown_8 rfl (lv_at hl 0 rfl) ?_
  refine lv_iconst (v := 0) hx hb dX0_becomeKnown_9 (by decide) ?_
  refine w_puti (ci := 1) (T := TX0) (ty := .int) hx hb hts hin_TX0 tyX0 tyX0_ok nmX0 hown hK hW hS hk hd (by decide) rfl 5 (by decide) (hts (.fieldLink RX0 28 "TownClocks$Dial" "puffsSinceKnown" "I") (by decide +kernel)) (fun _ h9 => h9) rfl (tyX0_ok 5 (by decide)) rfl rfl (Nat.le_of_ble_eq_true rfl) rfl dX0_becomeKnown_10 (fun H locs hW hS => ?_)
  exact w_vret hx hb hr hlk hW hS rfl rfl rfl dX0_becomeKnown_13
set_option maxHeartbeats 4000000 in
set_option maxRecDepth 100000 in
theorem c_X0_putOn {X : (Nat → Prop) → State → Prop} (hxo : xok X) (l : Launch) (D : va_G) (q : Cq) {dm : List Nat} {kd ln ad : Nat → Nat} (V : Mv) (J : Mj) (R : Mr) (k : Nat) (a : Int32) (hk : k ∈ dm) (hd : kd k = 1) : CtV X l yX0_putOn wsX0_putOn ({ frames := 0, cells := 0, slots := 0, locals := 0 }) D q dm kd ln ad V J R [.ref (ad k), .int a] (x_putOn V k a) (J) (R) := by
  refine CtV_of (cc := cX0_putOn) (maxL := 2) (ret := none) (by decide +kernel) rfl (Nat.le_of_ble_eq_true rfl) ?_
  intro p e s m below meth c A hx hb hr hml hts hown hlk hmn hK hW hA hXs ls hl
  have hS : va_S A s.heap s.heap [] := va_S.rf
  have hl : lv_has ls 2 [(0, .ref (ad k)), (1, .int a)] := hl
  have hin_TX0 : ∀ w ∈ u_ws RX0 TX0 12, w ∈ wsX0_putOn := by decide +kernel
  refine lv_aload_n hx hb dX0_putOn_0 rfl (lv_at hl 0 rfl) ?_
  refine lv_dup hx hb dX0_putOn_1 rfl ?_
  refine w_get (ci := 1) (T := TX0) hx hb hts hin_TX0 hown hK hW hk hd (by decide) rfl 3 (by decide) (hts (.fieldLink RX0 34 "TownClocks$Dial" "late" "I") (by decide +kernel)) (fun _ h9 => h9) rfl dX0_putOn_2 ?_
  refine lv_iload_n hx hb dX0_putOn_5 rfl (lv_at hl 1 rfl) ?_
  refine lv_isub hx hb dX0_putOn_6 ?_
  refine w_puti (ci := 1) (T := TX0) (ty := .int) hx hb hts hin_TX0 tyX0 tyX0_ok nmX0 hown hK hW hS hk hd (by decide) rfl 3 (by decide) (hts (.fieldLink RX0 34 "TownClocks$Dial" "late" "I") (by decide +kernel)) (fun _ h9 => h9) rfl (tyX0_ok 3 (by decide)) rfl rfl (Nat.le_of_ble_eq_true rfl) rfl dX0_putOn_7 (fun H locs hW hS => ?_)
  refine lv_aload_n hx hb dX0_putOn_10 rfl (lv_at hl 0 rfl) ?_
  refine lv_dup hx hb dX0_putOn_11 rfl ?_
  refine w_get (ci := 1) (T := TX0) hx hb hts hin_TX0 hown hK hW hk hd (by decide) rfl 4 (by decide) (hts (.fieldLink RX0 53 "TownClocks$Dial" "knownLeast" "I") (by decide +kernel)) (fun _ h9 => h9) rfl dX0_putOn_12 ?_
  refine w_i (by rw [u2_sn (by decide)]) ?_
  refine lv_iload_n hx hb dX0_putOn_15 rfl (lv_at hl 1 rfl) ?_
  refine lv_isub hx hb dX0_putOn_16 ?_
  refine w_puti (ci := 1) (T := TX0) (ty := .int) hx hb hts hin_TX0 tyX0 tyX0_ok nmX0 hown hK hW hS hk hd (by decide) rfl 4 (by decide) (hts (.fieldLink RX0 53 "TownClocks$Dial" "knownLeast" "I") (by decide +kernel)) (fun _ h9 => h9) rfl (tyX0_ok 4 (by decide)) rfl rfl (Nat.le_of_ble_eq_true rfl) rfl dX0_putOn_17 (fun H locs hW hS => ?_)
  exact w_vret hx hb hr hlk hW hS rfl rfl rfl dX0_putOn_20
set_option maxHeartbeats 4000000 in
set_option maxRecDepth 100000 in
theorem c_X0_putRight {X : (Nat → Prop) → State → Prop} (hxo : xok X) (l : Launch) (D : va_G) (q : Cq) {dm : List Nat} {kd ln ad : Nat → Nat} (V : Mv) (J : Mj) (R : Mr) (k : Nat) (hk : k ∈ dm) (hd : kd k = 1) : CtV X l yX0_putRight wsX0_putRight ({ frames := 1, cells := 0, slots := 0, locals := 20 }) D q dm kd ln ad V J R [.ref (ad k)] (x_right V k) (J) (R) := by
  refine CtV_of (cc := cX0_putRight) (maxL := 1) (ret := none) (by decide +kernel) rfl (Nat.le_of_ble_eq_true rfl) ?_
  intro p e s m below meth c A hx hb hr hml hts hown hlk hmn hK hW hA hXs ls hl
  have hS : va_S A s.heap s.heap [] := va_S.rf
  have hl : lv_has ls 1 [(0, .ref (ad k))] := hl
  have hin_TX0 : ∀ w ∈ u_ws RX0 TX0 12, w ∈ wsX0_putRight := by decide +kernel
  refine lv_aload_n hx hb dX0_putRight_0 rfl (lv_at hl 0 rfl) ?_
  refine lv_iconst (v := 0) hx hb dX0_putRight_1 (by decide) ?_
  refine w_puti (ci := 1) (T := TX0) (ty := .int) hx hb hts hin_TX0 tyX0 tyX0_ok nmX0 hown hK hW hS hk hd (by decide) rfl 3 (by decide) (hts (.fieldLink RX0 34 "TownClocks$Dial" "late" "I") (by decide +kernel)) (fun _ h9 => h9) rfl (tyX0_ok 3 (by decide)) rfl rfl (Nat.le_of_ble_eq_true rfl) rfl dX0_putRight_2 (fun H locs hW hS => ?_)
  refine lv_aload_n hx hb dX0_putRight_5 rfl (lv_at hl 0 rfl) ?_
  refine lv_iconst (v := 0) hx hb dX0_putRight_6 (by decide) ?_
  refine w_puti (ci := 1) (T := TX0) (ty := .int) hx hb hts hin_TX0 tyX0 tyX0_ok nmX0 hown hK hW hS hk hd (by decide) rfl 6 (by decide) (hts (.fieldLink RX0 31 "TownClocks$Dial" "missedRunning" "I") (by decide +kernel)) (fun _ h9 => h9) rfl (tyX0_ok 6 (by decide)) rfl rfl (Nat.le_of_ble_eq_true rfl) rfl dX0_putRight_7 (fun H locs hW hS => ?_)
  refine lv_aload_n hx hb dX0_putRight_10 rfl (lv_at hl 0 rfl) ?_
  refine w_cv (w_runV ⟨hx, hb, hml, hown, hts⟩ (c_X0_becomeKnown hxo l D q (u2 (u2 V k 3 0) k 6 0) J R k hk hd) hxo (cwV 0 hts gX0_putRight_X0_becomeKnown rfl rfl rfl (by decide +kernel) ⟨Nat.le_of_ble_eq_true rfl, Nat.le_of_ble_eq_true rfl⟩) hK hW hS hA hXs (w_rcv hK hW hk hd (by decide) rfl) rfl hl.1 rfl (Nat.le_of_ble_eq_true rfl) dX0_putRight_11 ⟨Nat.zero_le _, Nat.zero_le _⟩) hW hS hA (fun H locs hW hS => ?_)
  exact w_vret hx hb hr hlk hW hS rfl rfl rfl dX0_putRight_14
set_option maxHeartbeats 4000000 in
set_option maxRecDepth 100000 in
theorem c_X0_begin {X : (Nat → Prop) → State → Prop} (hxo : xok X) (l : Launch) (D : va_G) (q : Cq) {dm : List Nat} {kd ln ad : Nat → Nat} (V : Mv) (J : Mj) (R : Mr) (k : Nat) (a b d : Int32) (hk : k ∈ dm) (hd : kd k = 1) : CtV X l yX0_begin wsX0_begin ({ frames := 0, cells := 0, slots := 0, locals := 0 }) D q dm kd ln ad V J R [.ref (ad k), .int a, .int b, .int d] (x_begin V k a b d) (J) (R) := by
  refine CtV_of (cc := cX0_begin) (maxL := 4) (ret := none) (by decide +kernel) rfl (Nat.le_of_ble_eq_true rfl) ?_
  intro p e s m below meth c A hx hb hr hml hts hown hlk hmn hK hW hA hXs ls hl
  have hS : va_S A s.heap s.heap [] := va_S.rf
  have hl : lv_has ls 4 [(0, .ref (ad k)), (1, .int a), (2, .int b), (3, .int d)] := hl
  have hin_TX0 : ∀ w ∈ u_ws RX0 TX0 12, w ∈ wsX0_begin := by decide +kernel
  refine lv_aload_n hx hb dX0_begin_0 rfl (lv_at hl 0 rfl) ?_
  refine lv_iload_n hx hb dX0_begin_1 rfl (lv_at hl 1 rfl) ?_
  refine w_puti (ci := 1) (T := TX0) (ty := .int) hx hb hts hin_TX0 tyX0 tyX0_ok nmX0 hown hK hW hS hk hd (by decide) rfl 8 (by decide) (hts (.fieldLink RX0 47 "TownClocks$Dial" "terms" "I") (by decide +kernel)) (fun _ h9 => h9) rfl (tyX0_ok 8 (by decide)) rfl rfl (Nat.le_of_ble_eq_true rfl) rfl dX0_begin_2 (fun H locs hW hS => ?_)
  refine lv_aload_n hx hb dX0_begin_5 rfl (lv_at hl 0 rfl) ?_
  refine lv_iload_n hx hb dX0_begin_6 rfl (lv_at hl 2 rfl) ?_
  refine w_puti (ci := 1) (T := TX0) (ty := .int) hx hb hts hin_TX0 tyX0 tyX0_ok nmX0 hown hK hW hS hk hd (by decide) rfl 9 (by decide) (hts (.fieldLink RX0 50 "TownClocks$Dial" "below" "I") (by decide +kernel)) (fun _ h9 => h9) rfl (tyX0_ok 9 (by decide)) rfl rfl (Nat.le_of_ble_eq_true rfl) rfl dX0_begin_7 (fun H locs hW hS => ?_)
  refine lv_aload_n hx hb dX0_begin_10 rfl (lv_at hl 0 rfl) ?_
  refine lv_iload_n hx hb dX0_begin_11 rfl (lv_at hl 3 rfl) ?_
  refine w_puti (ci := 1) (T := TX0) (ty := .int) hx hb hts hin_TX0 tyX0 tyX0_ok nmX0 hown hK hW hS hk hd (by decide) rfl 10 (by decide) (hts (.fieldLink RX0 44 "TownClocks$Dial" "pays" "I") (by decide +kernel)) (fun _ h9 => h9) rfl (tyX0_ok 10 (by decide)) rfl rfl (Nat.le_of_ble_eq_true rfl) rfl dX0_begin_12 (fun H locs hW hS => ?_)
  refine lv_aload_n hx hb dX0_begin_15 rfl (lv_at hl 0 rfl) ?_
  refine lv_iconst (v := 0) hx hb dX0_begin_16 (by decide) ?_
  refine w_puti (ci := 1) (T := TX0) (ty := .int) hx hb hts hin_TX0 tyX0 tyX0_ok nmX0 hown hK hW hS hk hd (by decide) rfl 11 (by decide) (hts (.fieldLink RX0 41 "TownClocks$Dial" "owed" "I") (by decide +kernel)) (fun _ h9 => h9) rfl (tyX0_ok 11 (by decide)) rfl rfl (Nat.le_of_ble_eq_true rfl) rfl dX0_begin_17 (fun H locs hW hS => ?_)
  exact w_vret hx hb hr hlk hW hS rfl rfl rfl dX0_begin_20
set_option maxHeartbeats 4000000 in
set_option maxRecDepth 100000 in
theorem c_X0_isPaidFor {X : (Nat → Prop) → State → Prop} (hxo : xok X) (l : Launch) (D : va_G) (q : Cq) {dm : List Nat} {kd ln ad : Nat → Nat} (V : Mv) (J : Mj) (R : Mr) (k : Nat) (mv : Int32) (hk : k ∈ dm) (hd : kd k = 1) (hmv : mv = 0 ∨ mv = 1) : CtI X l yX0_isPaidFor wsX0_isPaidFor ({ frames := 0, cells := 0, slots := 0, locals := 0 }) D q dm kd ln ad V J R [.ref (ad k), .int mv] (x_paid V k mv) (V) (J) (R) := by
  refine CtI_of (cc := cX0_isPaidFor) (maxL := 2) (ret := (some .boolean)) (by decide +kernel) rfl (Nat.le_of_ble_eq_true rfl) ?_
  intro p e s m below meth c A hx hb hr hml hts hown hlk hmn hK hW hA hXs ls hl
  have hS : va_S A s.heap s.heap [] := va_S.rf
  have hl : lv_has ls 2 [(0, .ref (ad k)), (1, .int mv)] := hl
  have hin_TX0 : ∀ w ∈ u_ws RX0 TX0 12, w ∈ wsX0_isPaidFor := by decide +kernel
  refine lv_aload_n hx hb dX0_isPaidFor_0 rfl (lv_at hl 0 rfl) ?_
  refine w_get (ci := 1) (T := TX0) hx hb hts hin_TX0 hown hK hW hk hd (by decide) rfl 8 (by decide) (hts (.fieldLink RX0 47 "TownClocks$Dial" "terms" "I") (by decide +kernel)) (fun _ h9 => h9) rfl dX0_isPaidFor_1 ?_
  by_cases c_4_1 : V k 8 = 1
  · refine w_i c_4_1 ?_
    refine lv_tableIn (tgt := 32) hx hb dX0_isPaidFor_4 (by decide) (by decide) (off := 28) (by decide) (by decide) ?_
    refine lv_iconst (v := 1) hx hb dX0_isPaidFor_32 (by decide) ?_
    exact w_zret hx hb hr hlk hW hS (Or.inr rfl) (by first | rfl | (simp only [x_paid, c_4_1, ↓reduceIte]; done) | simp [bz, x_paid, c_4_1]) rfl rfl rfl dX0_isPaidFor_33
  by_cases c_4_2 : V k 8 = 2
  · refine w_i c_4_2 ?_
    refine lv_tableIn (tgt := 34) hx hb dX0_isPaidFor_4 (by decide) (by decide) (off := 30) (by decide) (by decide) ?_
    refine lv_iload_n hx hb dX0_isPaidFor_34 rfl (lv_at hl 1 rfl) ?_
    exact w_zret hx hb hr hlk hW hS hmv (by first | rfl | (simp only [x_paid, c_4_1, c_4_2, ↓reduceIte]; done) | simp [bz, x_paid, c_4_1, c_4_2]) rfl rfl rfl dX0_isPaidFor_35
  by_cases c_4_3 : V k 8 = 3
  · refine w_i c_4_3 ?_
    refine lv_tableIn (tgt := 36) hx hb dX0_isPaidFor_4 (by decide) (by decide) (off := 32) (by decide) (by decide) ?_
    refine lv_aload_n hx hb dX0_isPaidFor_36 rfl (lv_at hl 0 rfl) ?_
    refine w_get (ci := 1) (T := TX0) hx hb hts hin_TX0 hown hK hW hk hd (by decide) rfl 3 (by decide) (hts (.fieldLink RX0 34 "TownClocks$Dial" "late" "I") (by decide +kernel)) (fun _ h9 => h9) rfl dX0_isPaidFor_37 ?_
    refine lv_aload_n hx hb dX0_isPaidFor_40 rfl (lv_at hl 0 rfl) ?_
    refine w_get (ci := 1) (T := TX0) hx hb hts hin_TX0 hown hK hW hk hd (by decide) rfl 9 (by decide) (hts (.fieldLink RX0 50 "TownClocks$Dial" "below" "I") (by decide +kernel)) (fun _ h9 => h9) rfl dX0_isPaidFor_41 ?_
    refine lv_icmp_ge (tgt := 51) hx hb dX0_isPaidFor_44 (by decide) (fun c_44 => ?_) (fun c_44 => ?_)
    · refine lv_iconst (v := 0) hx hb dX0_isPaidFor_51 (by decide) ?_
      exact w_zret hx hb hr hlk hW hS (Or.inl rfl) (by first | rfl | (simp only [x_paid, c_4_1, c_4_2, c_4_3, c_44, ↓reduceIte]; done) | simp [bz, x_paid, c_4_1, c_4_2, c_4_3, c_44]) rfl rfl rfl dX0_isPaidFor_52
    · refine lv_iconst (v := 1) hx hb dX0_isPaidFor_47 (by decide) ?_
      refine lv_goto (tgt := 52) hx hb dX0_isPaidFor_48 (by decide) ?_
      exact w_zret hx hb hr hlk hW hS (Or.inr rfl) (by first | rfl | (simp only [x_paid, c_4_1, c_4_2, c_4_3, c_44, ↓reduceIte]; done) | simp [bz, x_paid, c_4_1, c_4_2, c_4_3, c_44]) rfl rfl rfl dX0_isPaidFor_52
  refine lv_tableOut (tgt := 53) hx hb dX0_isPaidFor_4 (by have h0 := i32_neL c_4_1 (k := 1) (by decide); have h1 := i32_neL c_4_2 (k := 2) (by decide); have h2 := i32_neL c_4_3 (k := 3) (by decide); omega) (by decide) ?_
  refine lv_iconst (v := 0) hx hb dX0_isPaidFor_53 (by decide) ?_
  exact w_zret hx hb hr hlk hW hS (Or.inl rfl) (by first | rfl | (simp only [x_paid, c_4_1, c_4_2, c_4_3, ↓reduceIte]; done) | simp [bz, x_paid, c_4_1, c_4_2, c_4_3]) rfl rfl rfl dX0_isPaidFor_54
end
section
def x_air0 (V : Mv) (k : Nat) (a : Int32) : Int32 := if 0 < 100 - V k 2 - a then 100 - V k 2 - a else 0
abbrev x_fed (V : Mv) (k : Nat) (a : Int32) : Prop := ¬ V k 4 &&& ((1 : Int32) <<< (a &&& 31)) = 0
def x_lk (V : Mv) (R : Mr) : Nat → Nat → Int32 → Int32
  | 0, _, a => a
  | n + 1, k, a => match R k 1 with
    | none => a + V k 5
    | some j => x_lk V R n j (a + V k 5)
def x_puff1 (V : Mv) (k : Nat) : Mv := u2 (u2 V k 5 (V k 5 + 1)) k 6 0
def x_puff0 (V : Mv) (k : Nat) : Mv := u2 (u2 (u2 V k 5 (V k 5 + 1)) k 3 (V k 3 + 1)) k 6 (V k 6 + 1)
def x_puff2 (V W : Mv) (k : Nat) : Mv := u2 W k 11 (V k 11 + V k 10)
def x_air (V : Mv) (R : Mr) (i : Nat) : Int32 := x_air0 V (100 + i) (x_lk V R (i + 1) (100 + i) 0)
def x_puff (V : Mv) (R : Mr) (j i : Nat) : Mv := if x_air V R i < V (200 + j) 1 then (if x_paid (x_puff0 V (200 + j)) (200 + j) 0 = 0 then x_puff0 V (200 + j) else x_puff2 V (x_puff0 V (200 + j)) (200 + j)) else (if x_paid (x_puff1 V (200 + j)) (200 + j) 1 = 0 then x_puff1 V (200 + j) else x_puff2 V (x_puff1 V (200 + j)) (200 + j))
set_option maxHeartbeats 4000000 in
set_option maxRecDepth 100000 in
theorem c_X3_airBehindLeaks {X : (Nat → Prop) → State → Prop} (hxo : xok X) (l : Launch) (D : va_G) (q : Cq) {dm : List Nat} {kd ln ad : Nat → Nat} (V : Mv) (J : Mj) (R : Mr) (k : Nat) (a : Int32) (hk : k ∈ dm) (hd : kd k = 4) : CtI X l yX3_airBehindLeaks wsX3_airBehindLeaks ({ frames := 1, cells := 0, slots := 0, locals := 23 }) D q dm kd ln ad V J R [.ref (ad k), .int a] (x_air0 V k a) (V) (J) (R) := by
  refine CtI_of (cc := cX3_airBehindLeaks) (maxL := 2) (ret := (some .int)) (by decide +kernel) rfl (Nat.le_of_ble_eq_true rfl) ?_
  intro p e s m below meth c A hx hb hr hml hts hown hlk hmn hK hW hA hXs ls hl
  have hS : va_S A s.heap s.heap [] := va_S.rf
  have hl : lv_has ls 2 [(0, .ref (ad k)), (1, .int a)] := hl
  have hin_TX3 : ∀ w ∈ u_ws RX3 TX3 6, w ∈ wsX3_airBehindLeaks := by decide +kernel
  refine lv_iconst (v := 0) hx hb dX3_airBehindLeaks_0 (by decide) ?_
  refine lv_bipush (v := 100) hx hb dX3_airBehindLeaks_1 (by decide) ?_
  refine lv_aload_n hx hb dX3_airBehindLeaks_3 rfl (lv_at hl 0 rfl) ?_
  refine w_get (ci := 4) (T := TX3) hx hb hts hin_TX3 hown hK hW hk hd (by decide) rfl 2 (by decide) (hts (.fieldLink RX3 19 "TownClocks$Pipe" "lossInAll" "I") (by decide +kernel)) (fun _ h9 => h9) rfl dX3_airBehindLeaks_4 ?_
  refine lv_isub hx hb dX3_airBehindLeaks_7 ?_
  refine lv_iload_n hx hb dX3_airBehindLeaks_8 rfl (lv_at hl 1 rfl) ?_
  refine lv_isub hx hb dX3_airBehindLeaks_9 ?_
  refine va_mmax hx hb (by rw [hml]; exact hl.1.symm) hown (hts (.methodLink RX3 35 Lib.Math.max.name) (by decide +kernel)) (hts (.static Lib.Math.max.name) (by decide +kernel)) (hts (.initialized "java/lang/Math") (by decide +kernel)) (hts (.code Lib.Math.max.name Lib.Math.max.code 2 (some .int)) (by decide +kernel)) (Nat.le_of_ble_eq_true rfl) (Nat.le_of_ble_eq_true rfl) (Nat.zero_le _) (Nat.zero_le _) dX3_airBehindLeaks_10 ?_
  exact w_iret hx hb hr hlk hW hS rfl rfl rfl rfl dX3_airBehindLeaks_13
set_option maxHeartbeats 4000000 in
set_option maxRecDepth 100000 in
theorem c_X3_isFedThrough {X : (Nat → Prop) → State → Prop} (hxo : xok X) (l : Launch) (D : va_G) (q : Cq) {dm : List Nat} {kd ln ad : Nat → Nat} (V : Mv) (J : Mj) (R : Mr) (k : Nat) (a : Int32) (hk : k ∈ dm) (hd : kd k = 4) : CtI X l yX3_isFedThrough wsX3_isFedThrough ({ frames := 0, cells := 0, slots := 0, locals := 0 }) D q dm kd ln ad V J R [.ref (ad k), .int a] (bz (x_fed V k a)) (V) (J) (R) := by
  refine CtI_of (cc := cX3_isFedThrough) (maxL := 2) (ret := (some .boolean)) (by decide +kernel) rfl (Nat.le_of_ble_eq_true rfl) ?_
  intro p e s m below meth c A hx hb hr hml hts hown hlk hmn hK hW hA hXs ls hl
  have hS : va_S A s.heap s.heap [] := va_S.rf
  have hl : lv_has ls 2 [(0, .ref (ad k)), (1, .int a)] := hl
  have hin_TX3 : ∀ w ∈ u_ws RX3 TX3 6, w ∈ wsX3_isFedThrough := by decide +kernel
  refine lv_aload_n hx hb dX3_isFedThrough_0 rfl (lv_at hl 0 rfl) ?_
  refine w_get (ci := 4) (T := TX3) hx hb hts hin_TX3 hown hK hW hk hd (by decide) rfl 4 (by decide) (hts (.fieldLink RX3 25 "TownClocks$Pipe" "wayBits" "I") (by decide +kernel)) (fun _ h9 => h9) rfl dX3_isFedThrough_1 ?_
  refine lv_iconst (v := 1) hx hb dX3_isFedThrough_4 (by decide) ?_
  refine lv_iload_n hx hb dX3_isFedThrough_5 rfl (lv_at hl 1 rfl) ?_
  refine lv_ishl hx hb dX3_isFedThrough_6 ?_
  refine lv_iand hx hb dX3_isFedThrough_7 ?_
  refine lv_if_eq (tgt := 15) hx hb dX3_isFedThrough_8 (by decide) (fun c_8 => ?_) (fun c_8 => ?_)
  · refine lv_iconst (v := 0) hx hb dX3_isFedThrough_15 (by decide) ?_
    exact w_zret hx hb hr hlk hW hS (Or.inl rfl) (Eq.symm (bz_f (fun h => h c_8))) rfl rfl rfl dX3_isFedThrough_16
  · refine lv_iconst (v := 1) hx hb dX3_isFedThrough_11 (by decide) ?_
    refine lv_goto (tgt := 16) hx hb dX3_isFedThrough_12 (by decide) ?_
    exact w_zret hx hb hr hlk hW hS (Or.inr rfl) (Eq.symm (bz_t c_8)) rfl rfl rfl dX3_isFedThrough_16
set_option maxHeartbeats 4000000 in
set_option maxRecDepth 100000 in
theorem c_X3_air {X : (Nat → Prop) → State → Prop} (hxo : xok X) (l : Launch) (D : va_G) (q : Cq) {dm : List Nat} {kd ln ad : Nat → Nat} (V : Mv) (J : Mj) (R : Mr) (nP nD i : Nat) (hX : okX dm kd ln R nP nD) (hi : i < nP) : CtI X l yX3_air wsX3_air ({ frames := 2, cells := 0, slots := 0, locals := 44 }) D q dm kd ln ad V J R [.ref (ad (100 + i))] (x_air V R i) (V) (J) (R) := by
  refine CtI_of (cc := cX3_air) (maxL := 3) (ret := (some .int)) (by decide +kernel) rfl (Nat.le_of_ble_eq_true rfl) ?_
  intro p e s m below meth c A hx hb hr hml hts hown hlk hmn hK hW hA hXs ls hl
  have hS : va_S A s.heap s.heap [] := va_S.rf
  have hl : lv_has ls 3 [(0, .ref (ad (100 + i)))] := hl
  have hin_TX3 : ∀ w ∈ u_ws RX3 TX3 6, w ∈ wsX3_air := by decide +kernel
  obtain ⟨L, hLe⟩ : ∃ L, L = x_lk V R (i + 1) (100 + i) 0 := ⟨_, rfl⟩
  have J4 : ∀ f : Nat, ∀ (i2 : Nat) (a : Int32) (hi2 : i2 < f) (hn2 : i2 < nP) (hL : x_lk V R f (100 + i2) a = L) (H : Heap) (locs : List Loc) (ls : Array Slot), wok A D q dm kd ln ad V J R H → va_S A s.heap H locs → lv_has ls 3 [(0, .ref (ad (100 + i))), (1, .int a), (2, .ref (ad (100 + i2)))] → W p l e ({ frames := 2, cells := 0, slots := 0, locals := 44 }) s m ([.ref (ad (100 + i))] : List Value).toArray below meth c H locs 0 0 (MQ below (QI (x_air V R i) D q dm kd ln ad (V) (J) (R) A) ([.ref (ad (100 + i))] : List Value).toArray s 0 0 A) (F0 m 4 ls []) := by
    intro f
    induction f with
    | zero =>
      intro i2 a hi2 hn2 hL H locs ls hW hS hl
      exact absurd hi2 (by omega)
    | succ f ih =>
      intro i2 a hi2 hn2 hL H locs ls hW hS hl
      refine lv_aload_n hx hb dX3_air_4 rfl (lv_at hl 2 rfl) ?_
      refine lv_ifnull hx hb dX3_air_5 ?_
      refine lv_iload_n hx hb dX3_air_8 rfl (lv_at hl 1 rfl) ?_
      refine lv_aload_n hx hb dX3_air_9 rfl (lv_at hl 2 rfl) ?_
      refine w_get (ci := 4) (T := TX3) hx hb hts hin_TX3 hown hK hW (hX.2.2.1 i2 hn2).1 (hX.2.2.1 i2 hn2).2.1 (by decide) rfl 5 (by decide) (hts (.fieldLink RX3 28 "TownClocks$Pipe" "leak" "I") (by decide +kernel)) (fun _ h9 => h9) rfl dX3_air_10 ?_
      refine lv_iadd hx hb dX3_air_13 ?_
      refine lv_istore_n (lv' := [(1, .int (a + (V (100 + i2) 5))), (0, .ref (ad (100 + i))), (2, .ref (ad (100 + i2)))]) hx hb dX3_air_14 rfl hl (by decide) rfl (fun ls hl => ?_)
      refine lv_aload_n hx hb dX3_air_15 rfl (lv_at hl 2 rfl) ?_
      refine w_get (ci := 4) (T := TX3) hx hb hts hin_TX3 hown hK hW (hX.2.2.1 i2 hn2).1 (hX.2.2.1 i2 hn2).2.1 (by decide) rfl 1 (by decide) (hts (.fieldLink RX3 15 "TownClocks$Pipe" "ahead" "LTownClocks$Pipe;") (by decide +kernel)) (fun _ h9 => h9) rfl dX3_air_16 ?_
      rcases (hX.2.2.1 i2 hn2).2.2.2 with hnn | ⟨j, hj, hjj⟩
      · refine w_none hnn ?_
        have hL2 : a + V (100 + i2) 5 = L := by rw [x_lk, hnn] at hL; exact hL
        refine lv_astore_nN (lv' := [(2, .null), (1, .int (a + (V (100 + i2) 5))), (0, .ref (ad (100 + i)))]) hx hb dX3_air_19 rfl hl (by decide) rfl (fun ls hl => ?_)
        refine lv_goto (tgt := 4) hx hb dX3_air_20 (by decide) ?_
        refine lv_aload_nN hx hb dX3_air_4 rfl (lv_at hl 0 rfl) ?_
        refine lv_ifnullN (tgt := 23) hx hb dX3_air_5 (by decide) ?_
        refine lv_aload_n hx hb dX3_air_23 rfl (lv_at hl 2 rfl) ?_
        refine lv_iload_n hx hb dX3_air_24 rfl (lv_at hl 1 rfl) ?_
        refine w_ci (w_runV ⟨hx, hb, hml, hown, hts⟩ (c_X3_airBehindLeaks hxo l D q V J R (100 + i) (a + (V (100 + i2) 5)) (hX.2.2.1 i hi).1 (hX.2.2.1 i hi).2.1) hxo (cwV 1 hts gX3_air_X3_airBehindLeaks rfl rfl rfl (by decide +kernel) ⟨Nat.le_of_ble_eq_true rfl, Nat.le_of_ble_eq_true rfl⟩) hK hW hS hA hXs (w_rcv hK hW (hX.2.2.1 i hi).1 (hX.2.2.1 i hi).2.1 (by decide) rfl) rfl hl.1 rfl (Nat.le_of_ble_eq_true rfl) dX3_air_25 ⟨Nat.zero_le _, Nat.zero_le _⟩) hW hS hA (fun H locs hW hS => ?_)
        exact w_iret hx hb hr hlk hW hS (by rw [x_air, hL2, hLe]) rfl rfl rfl dX3_air_28
      · refine w_some hjj ?_
        have hL2 : x_lk V R f (100 + j) (a + V (100 + i2) 5) = L := by rw [x_lk, hjj] at hL; exact hL
        refine lv_astore_n (lv' := [(2, .ref (ad (100 + j))), (1, .int (a + (V (100 + i2) 5))), (0, .ref (ad (100 + i)))]) hx hb dX3_air_19 rfl hl (by decide) rfl (fun ls hl => ?_)
        refine lv_goto (tgt := 4) hx hb dX3_air_20 (by decide) ?_
        exact ih j (a + V (100 + i2) 5) (by omega) (by omega) hL2 _ _ _ hW hS (lv_sub hl [2, 1, 0] rfl)
  refine lv_iconst (v := 0) hx hb dX3_air_0 (by decide) ?_
  refine lv_istore_n (lv' := [(1, .int 0), (0, .ref (ad (100 + i)))]) hx hb dX3_air_1 rfl hl (by decide) rfl (fun ls hl => ?_)
  refine lv_aload_n hx hb dX3_air_2 rfl (lv_at hl 1 rfl) ?_
  refine lv_astore_n (lv' := [(2, .ref (ad (100 + i))), (1, .int 0), (0, .ref (ad (100 + i)))]) hx hb dX3_air_3 rfl hl (by decide) rfl (fun ls hl => ?_)
  exact J4 (i + 1) i 0 (by omega) hi hLe.symm _ _ _ hW hS (lv_sub hl [2, 1, 0] rfl)
set_option maxHeartbeats 4000000 in
set_option maxRecDepth 100000 in
theorem c_X0_takePuff {X : (Nat → Prop) → State → Prop} (hxo : xok X) (l : Launch) (D : va_G) (q : Cq) {dm : List Nat} {kd ln ad : Nat → Nat} (V : Mv) (J : Mj) (R : Mr) (nP nD j i : Nat) (hX : okX dm kd ln R nP nD) (hj : j < nD) (hi : i < nP) (hR : R (200 + j) 0 = some (100 + i)) : CtI X l yX0_takePuff wsX0_takePuff ({ frames := 3, cells := 0, slots := 0, locals := 66 }) D q dm kd ln ad V J R [.ref (ad (200 + j))] (bz (¬ x_air V R i < V (200 + j) 1)) (x_puff V R j i) (J) (R) := by
  refine CtI_of (cc := cX0_takePuff) (maxL := 2) (ret := (some .boolean)) (by decide +kernel) rfl (Nat.le_of_ble_eq_true rfl) ?_
  intro p e s m below meth c A hx hb hr hml hts hown hlk hmn hK hW hA hXs ls hl
  have hS : va_S A s.heap s.heap [] := va_S.rf
  have hl : lv_has ls 2 [(0, .ref (ad (200 + j)))] := hl
  have hin_TX0 : ∀ w ∈ u_ws RX0 TX0 12, w ∈ wsX0_takePuff := by decide +kernel
  refine lv_aload_n hx hb dX0_takePuff_0 rfl (lv_at hl 0 rfl) ?_
  refine w_getr (ci := 1) (T := TX0) hx hb hts hin_TX0 hown hK hW (hX.2.2.2.1 j hj).1 (hX.2.2.2.1 j hj).2.1 (by decide) rfl 0 (by decide) (hts (.fieldLink RX0 9 "TownClocks$Dial" "pipe" "LTownClocks$Pipe;") (by decide +kernel)) (fun _ h9 => h9) rfl hR dX0_takePuff_1 ?_
  refine w_ci (w_runV ⟨hx, hb, hml, hown, hts⟩ (c_X3_air hxo l D q V J R nP nD i hX hi) hxo (cwV 0 hts gX0_takePuff_X3_air rfl rfl rfl (by decide +kernel) ⟨Nat.le_of_ble_eq_true rfl, Nat.le_of_ble_eq_true rfl⟩) hK hW hS hA hXs (w_rcv hK hW (hX.2.2.1 i hi).1 (hX.2.2.1 i hi).2.1 (by decide) rfl) rfl hl.1 rfl (Nat.le_of_ble_eq_true rfl) dX0_takePuff_4 ⟨Nat.zero_le _, Nat.zero_le _⟩) hW hS hA (fun H locs hW hS => ?_)
  refine lv_aload_n hx hb dX0_takePuff_7 rfl (lv_at hl 0 rfl) ?_
  refine w_get (ci := 1) (T := TX0) hx hb hts hin_TX0 hown hK hW (hX.2.2.2.1 j hj).1 (hX.2.2.2.1 j hj).2.1 (by decide) rfl 1 (by decide) (hts (.fieldLink RX0 15 "TownClocks$Dial" "need" "I") (by decide +kernel)) (fun _ h9 => h9) rfl dX0_takePuff_8 ?_
  refine lv_icmp_lt (tgt := 18) hx hb dX0_takePuff_11 (by decide) (fun c_11 => ?_) (fun c_11 => ?_)
  · refine lv_iconst (v := 0) hx hb dX0_takePuff_18 (by decide) ?_
    refine lv_istore_n (lv' := [(1, .int 0), (0, .ref (ad (200 + j)))]) hx hb dX0_takePuff_19 rfl hl (by decide) rfl (fun ls hl => ?_)
    refine lv_aload_n hx hb dX0_takePuff_20 rfl (lv_at hl 1 rfl) ?_
    refine lv_dup hx hb dX0_takePuff_21 rfl ?_
    refine w_get (ci := 1) (T := TX0) hx hb hts hin_TX0 hown hK hW (hX.2.2.2.1 j hj).1 (hX.2.2.2.1 j hj).2.1 (by decide) rfl 5 (by decide) (hts (.fieldLink RX0 28 "TownClocks$Dial" "puffsSinceKnown" "I") (by decide +kernel)) (fun _ h9 => h9) rfl dX0_takePuff_22 ?_
    refine lv_iconst (v := 1) hx hb dX0_takePuff_25 (by decide) ?_
    refine lv_iadd hx hb dX0_takePuff_26 ?_
    refine w_puti (ci := 1) (T := TX0) (ty := .int) hx hb hts hin_TX0 tyX0 tyX0_ok nmX0 hown hK hW hS (hX.2.2.2.1 j hj).1 (hX.2.2.2.1 j hj).2.1 (by decide) rfl 5 (by decide) (hts (.fieldLink RX0 28 "TownClocks$Dial" "puffsSinceKnown" "I") (by decide +kernel)) (fun _ h9 => h9) rfl (tyX0_ok 5 (by decide)) rfl rfl (Nat.le_of_ble_eq_true rfl) rfl dX0_takePuff_27 (fun H locs hW hS => ?_)
    refine lv_iload_n hx hb dX0_takePuff_30 rfl (lv_at hl 0 rfl) ?_
    refine lv_if_eq (tgt := 42) hx hb dX0_takePuff_31 (by decide) (fun _ => ?_) (fun z9 => absurd z9 (by decide))
    refine lv_aload_n hx hb dX0_takePuff_42 rfl (lv_at hl 1 rfl) ?_
    refine lv_dup hx hb dX0_takePuff_43 rfl ?_
    refine w_get (ci := 1) (T := TX0) hx hb hts hin_TX0 hown hK hW (hX.2.2.2.1 j hj).1 (hX.2.2.2.1 j hj).2.1 (by decide) rfl 3 (by decide) (hts (.fieldLink RX0 34 "TownClocks$Dial" "late" "I") (by decide +kernel)) (fun _ h9 => h9) rfl dX0_takePuff_44 ?_
    refine w_i (by rw [u2_sn (by decide)]) ?_
    refine lv_iconst (v := 1) hx hb dX0_takePuff_47 (by decide) ?_
    refine lv_iadd hx hb dX0_takePuff_48 ?_
    refine w_puti (ci := 1) (T := TX0) (ty := .int) hx hb hts hin_TX0 tyX0 tyX0_ok nmX0 hown hK hW hS (hX.2.2.2.1 j hj).1 (hX.2.2.2.1 j hj).2.1 (by decide) rfl 3 (by decide) (hts (.fieldLink RX0 34 "TownClocks$Dial" "late" "I") (by decide +kernel)) (fun _ h9 => h9) rfl (tyX0_ok 3 (by decide)) rfl rfl (Nat.le_of_ble_eq_true rfl) rfl dX0_takePuff_49 (fun H locs hW hS => ?_)
    refine lv_aload_n hx hb dX0_takePuff_52 rfl (lv_at hl 1 rfl) ?_
    refine lv_dup hx hb dX0_takePuff_53 rfl ?_
    refine w_get (ci := 1) (T := TX0) hx hb hts hin_TX0 hown hK hW (hX.2.2.2.1 j hj).1 (hX.2.2.2.1 j hj).2.1 (by decide) rfl 6 (by decide) (hts (.fieldLink RX0 31 "TownClocks$Dial" "missedRunning" "I") (by decide +kernel)) (fun _ h9 => h9) rfl dX0_takePuff_54 ?_
    refine w_i (by rw [u2_sn (by decide), u2_sn (by decide)]) ?_
    refine lv_iconst (v := 1) hx hb dX0_takePuff_57 (by decide) ?_
    refine lv_iadd hx hb dX0_takePuff_58 ?_
    refine w_puti (ci := 1) (T := TX0) (ty := .int) hx hb hts hin_TX0 tyX0 tyX0_ok nmX0 hown hK hW hS (hX.2.2.2.1 j hj).1 (hX.2.2.2.1 j hj).2.1 (by decide) rfl 6 (by decide) (hts (.fieldLink RX0 31 "TownClocks$Dial" "missedRunning" "I") (by decide +kernel)) (fun _ h9 => h9) rfl (tyX0_ok 6 (by decide)) rfl rfl (Nat.le_of_ble_eq_true rfl) rfl dX0_takePuff_59 (fun H locs hW hS => ?_)
    refine lv_aload_n hx hb dX0_takePuff_62 rfl (lv_at hl 1 rfl) ?_
    refine lv_iload_n hx hb dX0_takePuff_63 rfl (lv_at hl 0 rfl) ?_
    refine w_ci (w_runV ⟨hx, hb, hml, hown, hts⟩ (c_X0_isPaidFor hxo l D q (u2 (u2 (u2 V (200 + j) 5 ((V (200 + j) 5) + 1)) (200 + j) 3 ((V (200 + j) 3) + 1)) (200 + j) 6 ((V (200 + j) 6) + 1)) J R (200 + j) 0 (hX.2.2.2.1 j hj).1 (hX.2.2.2.1 j hj).2.1 (Or.inl rfl)) hxo (cwV 1 hts gX0_takePuff_X0_isPaidFor rfl rfl rfl (by decide +kernel) ⟨Nat.le_of_ble_eq_true rfl, Nat.le_of_ble_eq_true rfl⟩) hK hW hS hA hXs (w_rcv hK hW (hX.2.2.2.1 j hj).1 (hX.2.2.2.1 j hj).2.1 (by decide) rfl) rfl hl.1 rfl (Nat.le_of_ble_eq_true rfl) dX0_takePuff_64 ⟨Nat.zero_le _, Nat.zero_le _⟩) hW hS hA (fun H locs hW hS => ?_)
    refine lv_if_eq (tgt := 83) hx hb dX0_takePuff_67 (by decide) (fun c_67 => ?_) (fun c_67 => ?_)
    · refine lv_iload_n hx hb dX0_takePuff_83 rfl (lv_at hl 0 rfl) ?_
      exact w_zret hx hb hr hlk hW hS (Or.inl rfl) (Eq.symm (bz_f (fun h => h c_11))) (by first | rfl | (simp only [x_puff, x_puff0, x_puff1, x_puff2, c_11, c_67, ↓reduceIte]; done) | simp [bz, x_puff, x_puff0, x_puff1, x_puff2, c_11, c_67]) rfl rfl dX0_takePuff_84
    · refine lv_aload_n hx hb dX0_takePuff_70 rfl (lv_at hl 1 rfl) ?_
      refine lv_dup hx hb dX0_takePuff_71 rfl ?_
      refine w_get (ci := 1) (T := TX0) hx hb hts hin_TX0 hown hK hW (hX.2.2.2.1 j hj).1 (hX.2.2.2.1 j hj).2.1 (by decide) rfl 11 (by decide) (hts (.fieldLink RX0 41 "TownClocks$Dial" "owed" "I") (by decide +kernel)) (fun _ h9 => h9) rfl dX0_takePuff_72 ?_
      refine w_i (by rw [u2_sn (by decide), u2_sn (by decide), u2_sn (by decide)]) ?_
      refine lv_aload_n hx hb dX0_takePuff_75 rfl (lv_at hl 1 rfl) ?_
      refine w_get (ci := 1) (T := TX0) hx hb hts hin_TX0 hown hK hW (hX.2.2.2.1 j hj).1 (hX.2.2.2.1 j hj).2.1 (by decide) rfl 10 (by decide) (hts (.fieldLink RX0 44 "TownClocks$Dial" "pays" "I") (by decide +kernel)) (fun _ h9 => h9) rfl dX0_takePuff_76 ?_
      refine w_i (by rw [u2_sn (by decide), u2_sn (by decide), u2_sn (by decide)]) ?_
      refine lv_iadd hx hb dX0_takePuff_79 ?_
      refine w_puti (ci := 1) (T := TX0) (ty := .int) hx hb hts hin_TX0 tyX0 tyX0_ok nmX0 hown hK hW hS (hX.2.2.2.1 j hj).1 (hX.2.2.2.1 j hj).2.1 (by decide) rfl 11 (by decide) (hts (.fieldLink RX0 41 "TownClocks$Dial" "owed" "I") (by decide +kernel)) (fun _ h9 => h9) rfl (tyX0_ok 11 (by decide)) rfl rfl (Nat.le_of_ble_eq_true rfl) rfl dX0_takePuff_80 (fun H locs hW hS => ?_)
      refine lv_iload_n hx hb dX0_takePuff_83 rfl (lv_at hl 0 rfl) ?_
      exact w_zret hx hb hr hlk hW hS (Or.inl rfl) (Eq.symm (bz_f (fun h => h c_11))) (by first | rfl | (simp only [x_puff, x_puff0, x_puff1, x_puff2, c_11, c_67, ↓reduceIte]; done) | simp [bz, x_puff, x_puff0, x_puff1, x_puff2, c_11, c_67]) rfl rfl dX0_takePuff_84
  · refine lv_iconst (v := 1) hx hb dX0_takePuff_14 (by decide) ?_
    refine lv_goto (tgt := 19) hx hb dX0_takePuff_15 (by decide) ?_
    refine lv_istore_n (lv' := [(1, .int 1), (0, .ref (ad (200 + j)))]) hx hb dX0_takePuff_19 rfl hl (by decide) rfl (fun ls hl => ?_)
    refine lv_aload_n hx hb dX0_takePuff_20 rfl (lv_at hl 1 rfl) ?_
    refine lv_dup hx hb dX0_takePuff_21 rfl ?_
    refine w_get (ci := 1) (T := TX0) hx hb hts hin_TX0 hown hK hW (hX.2.2.2.1 j hj).1 (hX.2.2.2.1 j hj).2.1 (by decide) rfl 5 (by decide) (hts (.fieldLink RX0 28 "TownClocks$Dial" "puffsSinceKnown" "I") (by decide +kernel)) (fun _ h9 => h9) rfl dX0_takePuff_22 ?_
    refine lv_iconst (v := 1) hx hb dX0_takePuff_25 (by decide) ?_
    refine lv_iadd hx hb dX0_takePuff_26 ?_
    refine w_puti (ci := 1) (T := TX0) (ty := .int) hx hb hts hin_TX0 tyX0 tyX0_ok nmX0 hown hK hW hS (hX.2.2.2.1 j hj).1 (hX.2.2.2.1 j hj).2.1 (by decide) rfl 5 (by decide) (hts (.fieldLink RX0 28 "TownClocks$Dial" "puffsSinceKnown" "I") (by decide +kernel)) (fun _ h9 => h9) rfl (tyX0_ok 5 (by decide)) rfl rfl (Nat.le_of_ble_eq_true rfl) rfl dX0_takePuff_27 (fun H locs hW hS => ?_)
    refine lv_iload_n hx hb dX0_takePuff_30 rfl (lv_at hl 0 rfl) ?_
    refine lv_if_eq (tgt := 42) hx hb dX0_takePuff_31 (by decide) (fun z9 => absurd z9 (by decide)) (fun _ => ?_)
    refine lv_aload_n hx hb dX0_takePuff_34 rfl (lv_at hl 1 rfl) ?_
    refine lv_iconst (v := 0) hx hb dX0_takePuff_35 (by decide) ?_
    refine w_puti (ci := 1) (T := TX0) (ty := .int) hx hb hts hin_TX0 tyX0 tyX0_ok nmX0 hown hK hW hS (hX.2.2.2.1 j hj).1 (hX.2.2.2.1 j hj).2.1 (by decide) rfl 6 (by decide) (hts (.fieldLink RX0 31 "TownClocks$Dial" "missedRunning" "I") (by decide +kernel)) (fun _ h9 => h9) rfl (tyX0_ok 6 (by decide)) rfl rfl (Nat.le_of_ble_eq_true rfl) rfl dX0_takePuff_36 (fun H locs hW hS => ?_)
    refine lv_goto (tgt := 62) hx hb dX0_takePuff_39 (by decide) ?_
    refine lv_aload_n hx hb dX0_takePuff_62 rfl (lv_at hl 1 rfl) ?_
    refine lv_iload_n hx hb dX0_takePuff_63 rfl (lv_at hl 0 rfl) ?_
    refine w_ci (w_runV ⟨hx, hb, hml, hown, hts⟩ (c_X0_isPaidFor hxo l D q (u2 (u2 V (200 + j) 5 ((V (200 + j) 5) + 1)) (200 + j) 6 0) J R (200 + j) 1 (hX.2.2.2.1 j hj).1 (hX.2.2.2.1 j hj).2.1 (Or.inr rfl)) hxo (cwV 1 hts gX0_takePuff_X0_isPaidFor rfl rfl rfl (by decide +kernel) ⟨Nat.le_of_ble_eq_true rfl, Nat.le_of_ble_eq_true rfl⟩) hK hW hS hA hXs (w_rcv hK hW (hX.2.2.2.1 j hj).1 (hX.2.2.2.1 j hj).2.1 (by decide) rfl) rfl hl.1 rfl (Nat.le_of_ble_eq_true rfl) dX0_takePuff_64 ⟨Nat.zero_le _, Nat.zero_le _⟩) hW hS hA (fun H locs hW hS => ?_)
    refine lv_if_eq (tgt := 83) hx hb dX0_takePuff_67 (by decide) (fun c_67 => ?_) (fun c_67 => ?_)
    · refine lv_iload_n hx hb dX0_takePuff_83 rfl (lv_at hl 0 rfl) ?_
      exact w_zret hx hb hr hlk hW hS (Or.inr rfl) (Eq.symm (bz_t c_11)) (by first | rfl | (simp only [x_puff, x_puff0, x_puff1, x_puff2, c_11, c_67, ↓reduceIte]; done) | simp [bz, x_puff, x_puff0, x_puff1, x_puff2, c_11, c_67]) rfl rfl dX0_takePuff_84
    · refine lv_aload_n hx hb dX0_takePuff_70 rfl (lv_at hl 1 rfl) ?_
      refine lv_dup hx hb dX0_takePuff_71 rfl ?_
      refine w_get (ci := 1) (T := TX0) hx hb hts hin_TX0 hown hK hW (hX.2.2.2.1 j hj).1 (hX.2.2.2.1 j hj).2.1 (by decide) rfl 11 (by decide) (hts (.fieldLink RX0 41 "TownClocks$Dial" "owed" "I") (by decide +kernel)) (fun _ h9 => h9) rfl dX0_takePuff_72 ?_
      refine w_i (by rw [u2_sn (by decide), u2_sn (by decide)]) ?_
      refine lv_aload_n hx hb dX0_takePuff_75 rfl (lv_at hl 1 rfl) ?_
      refine w_get (ci := 1) (T := TX0) hx hb hts hin_TX0 hown hK hW (hX.2.2.2.1 j hj).1 (hX.2.2.2.1 j hj).2.1 (by decide) rfl 10 (by decide) (hts (.fieldLink RX0 44 "TownClocks$Dial" "pays" "I") (by decide +kernel)) (fun _ h9 => h9) rfl dX0_takePuff_76 ?_
      refine w_i (by rw [u2_sn (by decide), u2_sn (by decide)]) ?_
      refine lv_iadd hx hb dX0_takePuff_79 ?_
      refine w_puti (ci := 1) (T := TX0) (ty := .int) hx hb hts hin_TX0 tyX0 tyX0_ok nmX0 hown hK hW hS (hX.2.2.2.1 j hj).1 (hX.2.2.2.1 j hj).2.1 (by decide) rfl 11 (by decide) (hts (.fieldLink RX0 41 "TownClocks$Dial" "owed" "I") (by decide +kernel)) (fun _ h9 => h9) rfl (tyX0_ok 11 (by decide)) rfl rfl (Nat.le_of_ble_eq_true rfl) rfl dX0_takePuff_80 (fun H locs hW hS => ?_)
      refine lv_iload_n hx hb dX0_takePuff_83 rfl (lv_at hl 0 rfl) ?_
      exact w_zret hx hb hr hlk hW hS (Or.inr rfl) (Eq.symm (bz_t c_11)) (by first | rfl | (simp only [x_puff, x_puff0, x_puff1, x_puff2, c_11, c_67, ↓reduceIte]; done) | simp [bz, x_puff, x_puff0, x_puff1, x_puff2, c_11, c_67]) rfl rfl dX0_takePuff_84
end
section
theorem bz_iff {P Q : Prop} [Decidable P] [Decidable Q] (h : P ↔ Q) : bz P = bz Q := by
  by_cases hp : P
  · rw [bz_t hp, bz_t (h.mp hp)]
  · rw [bz_f hp, bz_f (fun q => hp (h.mpr q))]
def x_at (b n : Nat) (x : Int32) : Option Nat := if inx n x then some (b + x.toNatClampNeg) else none
set_option maxHeartbeats 4000000 in
set_option maxRecDepth 100000 in
theorem c_Jx4a65c_size_8abf5 {X : (Nat → Prop) → State → Prop} (hxo : xok X) (l : Launch) (D : va_G) (q : Cq) {dm : List Nat} {kd ln ad : Nat → Nat} (V : Mv) (J : Mj) (R : Mr) (k : Nat) (hk : k ∈ dm) (hd : kd k = 0) : CtI X l yJx4a65c_size_8abf5 wsJx4a65c_size_8abf5 ({ frames := 0, cells := 0, slots := 0, locals := 0 }) D q dm kd ln ad V J R [.ref (ad k)] (V k 2) (V) (J) (R) := by
  refine CtI_of (cc := cJx4a65c_size_8abf5) (maxL := 1) (ret := (some .int)) (by decide +kernel) rfl (Nat.le_of_ble_eq_true rfl) ?_
  intro p e s m below meth c A hx hb hr hml hts hown hlk hmn hK hW hA hXs ls hl
  have hS : va_S A s.heap s.heap [] := va_S.rf
  have hl : lv_has ls 1 [(0, .ref (ad k))] := hl
  have hin_TJx4a65c : ∀ w ∈ u_ws RJx4a65c TJx4a65c 3, w ∈ wsJx4a65c_size_8abf5 := by decide +kernel
  refine lv_aload_n hx hb dJx4a65c_size_8abf5_0 rfl (lv_at hl 0 rfl) ?_
  refine w_get (ci := 0) (T := TJx4a65c) hx hb hts hin_TJx4a65c hown hK hW hk hd (by decide) rfl 2 (by decide) (hts (.fieldLink RJx4a65c 48 "java/util/ArrayList" "size" "I") (by decide +kernel)) (fun _ h9 => h9) rfl dJx4a65c_size_8abf5_1 ?_
  exact w_iret hx hb hr hlk hW hS rfl rfl rfl rfl dJx4a65c_size_8abf5_4
set_option maxHeartbeats 4000000 in
set_option maxRecDepth 100000 in
theorem c_J3_checkIndex_8e157 {X : (Nat → Prop) → State → Prop} (hxo : xok X) (l : Launch) (D : va_G) (q : Cq) {dm : List Nat} {kd ln ad : Nat → Nat} (V : Mv) (J : Mj) (R : Mr) (a b : Int32) (h0 : ¬ a < 0) (h1 : a < b) : CtI X l yJ3_checkIndex_8e157 wsJ3_checkIndex_8e157 ({ frames := 0, cells := 0, slots := 0, locals := 0 }) D q dm kd ln ad V J R [.int a, .int b, .null] (a) (V) (J) (R) := by
  refine CtI_of (cc := cJ3_checkIndex_8e157) (maxL := 3) (ret := (some .int)) (by decide +kernel) rfl (Nat.le_of_ble_eq_true rfl) ?_
  intro p e s m below meth c A hx hb hr hml hts hown hlk hmn hK hW hA hXs ls hl
  have hS : va_S A s.heap s.heap [] := va_S.rf
  have hl : lv_has ls 3 [(0, .int a), (1, .int b), (2, .null)] := hl
  refine lv_iload_n hx hb dJ3_checkIndex_8e157_0 rfl (lv_at hl 0 rfl) ?_
  refine lv_if_lt (tgt := 9) hx hb dJ3_checkIndex_8e157_1 (by decide) (fun c_1 => ?_) (fun c_1 => ?_)
  · exact absurd c_1 h0
  · refine lv_iload_n hx hb dJ3_checkIndex_8e157_4 rfl (lv_at hl 0 rfl) ?_
    refine lv_iload_n hx hb dJ3_checkIndex_8e157_5 rfl (lv_at hl 1 rfl) ?_
    refine lv_icmp_lt (tgt := 16) hx hb dJ3_checkIndex_8e157_6 (by decide) (fun c_6 => ?_) (fun c_6 => ?_)
    · refine lv_iload_n hx hb dJ3_checkIndex_8e157_16 rfl (lv_at hl 0 rfl) ?_
      exact w_iret hx hb hr hlk hW hS rfl rfl rfl rfl dJ3_checkIndex_8e157_17
    · exact absurd h1 c_6
set_option maxHeartbeats 4000000 in
set_option maxRecDepth 100000 in
theorem c_J15_checkIndex_7cf53 {X : (Nat → Prop) → State → Prop} (hxo : xok X) (l : Launch) (D : va_G) (q : Cq) {dm : List Nat} {kd ln ad : Nat → Nat} (V : Mv) (J : Mj) (R : Mr) (a b : Int32) (h0 : ¬ a < 0) (h1 : a < b) : CtI X l yJ15_checkIndex_7cf53 wsJ15_checkIndex_7cf53 ({ frames := 1, cells := 0, slots := 0, locals := 22 }) D q dm kd ln ad V J R [.int a, .int b] (a) (V) (J) (R) := by
  refine CtI_of (cc := cJ15_checkIndex_7cf53) (maxL := 2) (ret := (some .int)) (by decide +kernel) rfl (Nat.le_of_ble_eq_true rfl) ?_
  intro p e s m below meth c A hx hb hr hml hts hown hlk hmn hK hW hA hXs ls hl
  have hS : va_S A s.heap s.heap [] := va_S.rf
  have hl : lv_has ls 2 [(0, .int a), (1, .int b)] := hl
  refine lv_iload_n hx hb dJ15_checkIndex_7cf53_0 rfl (lv_at hl 0 rfl) ?_
  refine lv_iload_n hx hb dJ15_checkIndex_7cf53_1 rfl (lv_at hl 1 rfl) ?_
  refine lv_null hx hb dJ15_checkIndex_7cf53_2 ?_
  refine w_ci (w_runS ⟨hx, hb, hml, hown, hts⟩ (c_J3_checkIndex_8e157 hxo l D q V J R a b h0 h1) hxo (va_cwS 3 hts gJ15_checkIndex_7cf53_J3_checkIndex_8e157 rfl rfl rfl (by decide +kernel) ⟨Nat.le_of_ble_eq_true rfl, Nat.le_of_ble_eq_true rfl⟩) hK hW hS hA hXs rfl hl.1 rfl (Nat.le_of_ble_eq_true rfl) dJ15_checkIndex_7cf53_3 ⟨Nat.zero_le _, Nat.zero_le _⟩) hW hS hA (fun H locs hW hS => ?_)
  exact w_iret hx hb hr hlk hW hS rfl rfl rfl rfl dJ15_checkIndex_7cf53_6
set_option maxHeartbeats 4000000 in
set_option maxRecDepth 100000 in
theorem c_Jx4a65c_elementData_915e3 {X : (Nat → Prop) → State → Prop} (hxo : xok X) (l : Launch) (D : va_G) (q : Cq) {dm : List Nat} {kd ln ad : Nat → Nat} (V : Mv) (J : Mj) (R : Mr) (k a t : Nat) (hk : k ∈ dm) (hd : kd k = 0) (hRa : R k 1 = some a) (hka : a ∈ dm) (hda : kd a = 13) (hta : t < ln a ∧ t < 2147483648) : CtQ X l yJx4a65c_elementData_915e3 wsJx4a65c_elementData_915e3 ({ frames := 0, cells := 0, slots := 0, locals := 0 }) D q dm kd ln ad V J R [.ref (ad k), .int (nI t)] (R a t) (V) (J) (R) := by
  refine CtQ_of (cc := cJx4a65c_elementData_915e3) (maxL := 2) (ret := (some (.object "java/lang/Object"))) (by decide +kernel) rfl (Nat.le_of_ble_eq_true rfl) ?_
  intro p e s m below meth c A hx hb hr hml hts hown hlk hmn hK hW hA hXs ls hl
  have hS : va_S A s.heap s.heap [] := va_S.rf
  have hl : lv_has ls 2 [(0, .ref (ad k)), (1, .int (nI t))] := hl
  have hin_TJx4a65c : ∀ w ∈ u_ws RJx4a65c TJx4a65c 3, w ∈ wsJx4a65c_elementData_915e3 := by decide +kernel
  refine lv_aload_n hx hb dJx4a65c_elementData_915e3_0 rfl (lv_at hl 0 rfl) ?_
  refine w_getr (ci := 0) (T := TJx4a65c) hx hb hts hin_TJx4a65c hown hK hW hk hd (by decide) rfl 1 (by decide) (hts (.fieldLink RJx4a65c 9 "java/util/ArrayList" "elementData" "[Ljava/lang/Object;") (by decide +kernel)) (fun _ h9 => h9) rfl hRa dJx4a65c_elementData_915e3_1 ?_
  refine lv_iload_n hx hb dJx4a65c_elementData_915e3_4 rfl (lv_at hl 1 rfl) ?_
  refine w_aaldN (t := t) hx hb hK hW hka hda hta dJx4a65c_elementData_915e3_5 ?_
  exact w_qret hx hb hr (Or.inl ⟨_, rfl⟩) hlk hW hS rfl rfl rfl rfl dJx4a65c_elementData_915e3_6
set_option maxHeartbeats 4000000 in
set_option maxRecDepth 100000 in
theorem c_Jx4a65c_get_915e3 {X : (Nat → Prop) → State → Prop} (hxo : xok X) (l : Launch) (D : va_G) (q : Cq) {dm : List Nat} {kd ln ad : Nat → Nat} (V : Mv) (J : Mj) (R : Mr) (k a t n : Nat) (hk : k ∈ dm) (hd : kd k = 0) (hRa : R k 1 = some a) (hka : a ∈ dm) (hda : kd a = 13) (hta : t < ln a ∧ t < 2147483648) (hsz : V k 2 = nI n) (htn : t < n) (hn : n < 2147483648) : CtQ X l yJx4a65c_get_915e3 wsJx4a65c_get_915e3 ({ frames := 2, cells := 0, slots := 0, locals := 43 }) D q dm kd ln ad V J R [.ref (ad k), .int (nI t)] (R a t) (V) (J) (R) := by
  refine CtQ_of (cc := cJx4a65c_get_915e3) (maxL := 2) (ret := (some (.object "java/lang/Object"))) (by decide +kernel) rfl (Nat.le_of_ble_eq_true rfl) ?_
  intro p e s m below meth c A hx hb hr hml hts hown hlk hmn hK hW hA hXs ls hl
  have hS : va_S A s.heap s.heap [] := va_S.rf
  have hl : lv_has ls 2 [(0, .ref (ad k)), (1, .int (nI t))] := hl
  have hin_TJx4a65c : ∀ w ∈ u_ws RJx4a65c TJx4a65c 3, w ∈ wsJx4a65c_get_915e3 := by decide +kernel
  refine lv_iload_n hx hb dJx4a65c_get_915e3_0 rfl (lv_at hl 1 rfl) ?_
  refine lv_aload_n hx hb dJx4a65c_get_915e3_1 rfl (lv_at hl 0 rfl) ?_
  refine w_get (ci := 0) (T := TJx4a65c) hx hb hts hin_TJx4a65c hown hK hW hk hd (by decide) rfl 2 (by decide) (hts (.fieldLink RJx4a65c 48 "java/util/ArrayList" "size" "I") (by decide +kernel)) (fun _ h9 => h9) rfl dJx4a65c_get_915e3_2 ?_
  refine w_ci (w_runS ⟨hx, hb, hml, hown, hts⟩ (c_J15_checkIndex_7cf53 hxo l D q V J R (nI t) (V k 2) (nI_pos hta.2) (by rw [hsz]; exact nI_lt htn hn)) hxo (va_cwS 2 hts gJx4a65c_get_915e3_J15_checkIndex_7cf53 rfl rfl rfl (by decide +kernel) ⟨Nat.le_of_ble_eq_true rfl, Nat.le_of_ble_eq_true rfl⟩) hK hW hS hA hXs rfl hl.1 rfl (Nat.le_of_ble_eq_true rfl) dJx4a65c_get_915e3_5 ⟨Nat.zero_le _, Nat.zero_le _⟩) hW hS hA (fun H locs hW hS => ?_)
  refine lv_pop hx hb dJx4a65c_get_915e3_8 rfl ?_
  refine lv_aload_n hx hb dJx4a65c_get_915e3_9 rfl (lv_at hl 0 rfl) ?_
  refine lv_iload_n hx hb dJx4a65c_get_915e3_10 rfl (lv_at hl 1 rfl) ?_
  refine w_cq (w_runV ⟨hx, hb, hml, hown, hts⟩ (c_Jx4a65c_elementData_915e3 hxo l D q V J R k a t hk hd hRa hka hda hta) hxo (cwV 1 hts gJx4a65c_get_915e3_Jx4a65c_elementData_915e3 rfl rfl rfl (by decide +kernel) ⟨Nat.le_of_ble_eq_true rfl, Nat.le_of_ble_eq_true rfl⟩) hK hW hS hA hXs (w_rcv hK hW hk hd (by decide) rfl) rfl hl.1 rfl (Nat.le_of_ble_eq_true rfl) dJx4a65c_get_915e3_11 ⟨Nat.zero_le _, Nat.zero_le _⟩) hW hS hA (fun H locs hW hS => ?_)
  exact w_qret hx hb hr (Or.inl ⟨_, rfl⟩) hlk hW hS rfl rfl rfl rfl dJx4a65c_get_915e3_14
set_option maxHeartbeats 4000000 in
set_option maxRecDepth 100000 in
theorem c_X7_pipeAt {X : (Nat → Prop) → State → Prop} (hxo : xok X) (l : Launch) (D : va_G) (q : Cq) {dm : List Nat} {kd ln ad : Nat → Nat} (V : Mv) (J : Mj) (R : Mr) (nP nD : Nat) (x : Int32) (hX : okX dm kd ln R nP nD) (hp : V 1 2 = nI nP) : CtQ X l yX7_pipeAt wsX7_pipeAt ({ frames := 3, cells := 0, slots := 0, locals := 64 }) D q dm kd ln ad V J R [.ref (ad 0), .int x] (x_at 100 nP x) (V) (J) (R) := by
  refine CtQ_of (cc := cX7_pipeAt) (maxL := 2) (ret := (some (.object "TownClocks$Pipe"))) (by decide +kernel) rfl (Nat.le_of_ble_eq_true rfl) ?_
  intro p e s m below meth c A hx hb hr hml hts hown hlk hmn hK hW hA hXs ls hl
  have hS : va_S A s.heap s.heap [] := va_S.rf
  have hl : lv_has ls 2 [(0, .ref (ad 0)), (1, .int x)] := hl
  have hin_TX7 : ∀ w ∈ u_ws RX7 TX7 8, w ∈ wsX7_pipeAt := by decide +kernel
  refine lv_iload_n hx hb dX7_pipeAt_0 rfl (lv_at hl 1 rfl) ?_
  refine lv_iconst (v := 0) hx hb dX7_pipeAt_1 (by decide) ?_
  refine lv_aload_n hx hb dX7_pipeAt_2 rfl (lv_at hl 0 rfl) ?_
  refine w_getr (ci := 8) (T := TX7) hx hb hts hin_TX7 hown hK hW (hX.1 0 (by decide)).1 (hX.1 0 (by decide)).2.1 (by decide) rfl 0 (by decide) (hts (.fieldLink RX7 10 "TownClocks" "pipes" "Ljava/util/ArrayList;") (by decide +kernel)) (fun _ h9 => h9) rfl ((hX.1 0 (by decide)).2.2.2 0 1 rfl) dX7_pipeAt_3 ?_
  refine w_ci (w_runV ⟨hx, hb, hml, hown, hts⟩ (c_Jx4a65c_size_8abf5 hxo l D q V J R 1 (hX.1 1 (by decide)).1 (hX.1 1 (by decide)).2.1) hxo (cwV 0 hts gX7_pipeAt_Jx4a65c_size_8abf5 rfl rfl rfl (by decide +kernel) ⟨Nat.le_of_ble_eq_true rfl, Nat.le_of_ble_eq_true rfl⟩) hK hW hS hA hXs (w_rcv hK hW (hX.1 1 (by decide)).1 (hX.1 1 (by decide)).2.1 (by decide) rfl) rfl hl.1 rfl (Nat.le_of_ble_eq_true rfl) dX7_pipeAt_6 ⟨Nat.zero_le _, Nat.zero_le _⟩) hW hS hA (fun H locs hW hS => ?_)
  refine lv_iconst (v := 1) hx hb dX7_pipeAt_9 (by decide) ?_
  refine lv_isub hx hb dX7_pipeAt_10 ?_
  refine w_ci (w_runS ⟨hx, hb, hml, hown, hts⟩ (c_X7_within hxo l D q V J R x 0 ((V 1 2) - 1) ) hxo (va_cwS 3 hts gX7_pipeAt_X7_within rfl rfl rfl (by decide +kernel) ⟨Nat.le_of_ble_eq_true rfl, Nat.le_of_ble_eq_true rfl⟩) hK hW hS hA hXs rfl hl.1 rfl (Nat.le_of_ble_eq_true rfl) dX7_pipeAt_11 ⟨Nat.zero_le _, Nat.zero_le _⟩) hW hS hA (fun H locs hW hS => ?_)
  refine w_ifz (tgt := 31) hx hb dX7_pipeAt_14 (by decide) (fun c_14 => ?_) (fun c_14 => ?_)
  · have hix : ¬ inx nP x := fun h => c_14 ((by rw [hp]; exact inx_w (by have := hX.2.1; omega) : (0 ≤ x ∧ x ≤ V 1 2 - 1) ↔ inx nP x).mpr h)
    refine lv_null hx hb dX7_pipeAt_31 ?_
    exact w_qret hx hb hr (Or.inl ⟨_, rfl⟩) hlk hW hS (by rw [x_at, if_neg hix]; rfl) rfl rfl rfl dX7_pipeAt_32
  · have hix : inx nP x := (by rw [hp]; exact inx_w (by have := hX.2.1; omega) : (0 ≤ x ∧ x ≤ V 1 2 - 1) ↔ inx nP x).mp c_14
    refine lv_aload_n hx hb dX7_pipeAt_17 rfl (lv_at hl 0 rfl) ?_
    refine w_getr (ci := 8) (T := TX7) hx hb hts hin_TX7 hown hK hW (hX.1 0 (by decide)).1 (hX.1 0 (by decide)).2.1 (by decide) rfl 0 (by decide) (hts (.fieldLink RX7 10 "TownClocks" "pipes" "Ljava/util/ArrayList;") (by decide +kernel)) (fun _ h9 => h9) rfl ((hX.1 0 (by decide)).2.2.2 0 1 rfl) dX7_pipeAt_18 ?_
    refine lv_iload_n hx hb dX7_pipeAt_21 rfl (lv_at hl 1 rfl) ?_
    refine w_i (inx_e hix) ?_
    refine w_cq (w_runV ⟨hx, hb, hml, hown, hts⟩ (c_Jx4a65c_get_915e3 hxo l D q V J R 1 16 x.toNatClampNeg nP (hX.1 1 (by decide)).1 (hX.1 1 (by decide)).2.1 (hX.2.2.2.2.1 (by have := (inx_c hix).1; omega)).2.2.2.2 (hX.2.2.2.2.1 (by have := (inx_c hix).1; omega)).1 (hX.2.2.2.2.1 (by have := (inx_c hix).1; omega)).2.1 ⟨Nat.lt_of_lt_of_le (inx_c hix).1 (hX.2.2.2.2.1 (by have := (inx_c hix).1; omega)).2.2.1, (inx_c hix).2⟩ hp (inx_c hix).1 (by have := hX.2.1; omega)) hxo (cwV 1 hts gX7_pipeAt_Jx4a65c_get_915e3 rfl rfl rfl (by decide +kernel) ⟨Nat.le_of_ble_eq_true rfl, Nat.le_of_ble_eq_true rfl⟩) hK hW hS hA hXs (w_rcv hK hW (hX.1 1 (by decide)).1 (hX.1 1 (by decide)).2.1 (by decide) rfl) rfl hl.1 rfl (Nat.le_of_ble_eq_true rfl) dX7_pipeAt_22 ⟨Nat.zero_le _, Nat.zero_le _⟩) hW hS hA (fun H locs hW hS => ?_)
    refine w_some (hX.2.2.1 x.toNatClampNeg (inx_c hix).1).2.2.1 ?_
    refine w_cast hx hb hown (hts (.classLink RX7 71 "TownClocks$Pipe") (by decide +kernel)) hK hW (hX.2.2.1 x.toNatClampNeg (inx_c hix).1).1 (hX.2.2.1 x.toNatClampNeg (inx_c hix).1).2.1 (by decide) rfl dX7_pipeAt_25 ?_
    refine lv_goto (tgt := 32) hx hb dX7_pipeAt_28 (by decide) ?_
    exact w_qret hx hb hr (Or.inl ⟨_, rfl⟩) hlk hW hS (by rw [x_at, if_pos hix]; rfl) rfl rfl rfl dX7_pipeAt_32
set_option maxHeartbeats 4000000 in
set_option maxRecDepth 100000 in
theorem c_X7_dialAt {X : (Nat → Prop) → State → Prop} (hxo : xok X) (l : Launch) (D : va_G) (q : Cq) {dm : List Nat} {kd ln ad : Nat → Nat} (V : Mv) (J : Mj) (R : Mr) (nP nD : Nat) (x : Int32) (hX : okX dm kd ln R nP nD) (hq : V 2 2 = nI nD) : CtQ X l yX7_dialAt wsX7_dialAt ({ frames := 3, cells := 0, slots := 0, locals := 64 }) D q dm kd ln ad V J R [.ref (ad 0), .int x] (x_at 200 nD x) (V) (J) (R) := by
  refine CtQ_of (cc := cX7_dialAt) (maxL := 2) (ret := (some (.object "TownClocks$Dial"))) (by decide +kernel) rfl (Nat.le_of_ble_eq_true rfl) ?_
  intro p e s m below meth c A hx hb hr hml hts hown hlk hmn hK hW hA hXs ls hl
  have hS : va_S A s.heap s.heap [] := va_S.rf
  have hl : lv_has ls 2 [(0, .ref (ad 0)), (1, .int x)] := hl
  have hin_TX7 : ∀ w ∈ u_ws RX7 TX7 8, w ∈ wsX7_dialAt := by decide +kernel
  refine lv_iload_n hx hb dX7_dialAt_0 rfl (lv_at hl 1 rfl) ?_
  refine lv_iconst (v := 0) hx hb dX7_dialAt_1 (by decide) ?_
  refine lv_aload_n hx hb dX7_dialAt_2 rfl (lv_at hl 0 rfl) ?_
  refine w_getr (ci := 8) (T := TX7) hx hb hts hin_TX7 hown hK hW (hX.1 0 (by decide)).1 (hX.1 0 (by decide)).2.1 (by decide) rfl 1 (by decide) (hts (.fieldLink RX7 16 "TownClocks" "dials" "Ljava/util/ArrayList;") (by decide +kernel)) (fun _ h9 => h9) rfl ((hX.1 0 (by decide)).2.2.2 1 2 rfl) dX7_dialAt_3 ?_
  refine w_ci (w_runV ⟨hx, hb, hml, hown, hts⟩ (c_Jx4a65c_size_8abf5 hxo l D q V J R 2 (hX.1 2 (by decide)).1 (hX.1 2 (by decide)).2.1) hxo (cwV 0 hts gX7_dialAt_Jx4a65c_size_8abf5 rfl rfl rfl (by decide +kernel) ⟨Nat.le_of_ble_eq_true rfl, Nat.le_of_ble_eq_true rfl⟩) hK hW hS hA hXs (w_rcv hK hW (hX.1 2 (by decide)).1 (hX.1 2 (by decide)).2.1 (by decide) rfl) rfl hl.1 rfl (Nat.le_of_ble_eq_true rfl) dX7_dialAt_6 ⟨Nat.zero_le _, Nat.zero_le _⟩) hW hS hA (fun H locs hW hS => ?_)
  refine lv_iconst (v := 1) hx hb dX7_dialAt_9 (by decide) ?_
  refine lv_isub hx hb dX7_dialAt_10 ?_
  refine w_ci (w_runS ⟨hx, hb, hml, hown, hts⟩ (c_X7_within hxo l D q V J R x 0 ((V 2 2) - 1) ) hxo (va_cwS 3 hts gX7_dialAt_X7_within rfl rfl rfl (by decide +kernel) ⟨Nat.le_of_ble_eq_true rfl, Nat.le_of_ble_eq_true rfl⟩) hK hW hS hA hXs rfl hl.1 rfl (Nat.le_of_ble_eq_true rfl) dX7_dialAt_11 ⟨Nat.zero_le _, Nat.zero_le _⟩) hW hS hA (fun H locs hW hS => ?_)
  refine w_ifz (tgt := 31) hx hb dX7_dialAt_14 (by decide) (fun c_14 => ?_) (fun c_14 => ?_)
  · have hix : ¬ inx nD x := fun h => c_14 ((by rw [hq]; exact inx_w (by have := hX.2.1; omega) : (0 ≤ x ∧ x ≤ V 2 2 - 1) ↔ inx nD x).mpr h)
    refine lv_null hx hb dX7_dialAt_31 ?_
    exact w_qret hx hb hr (Or.inl ⟨_, rfl⟩) hlk hW hS (by rw [x_at, if_neg hix]; rfl) rfl rfl rfl dX7_dialAt_32
  · have hix : inx nD x := (by rw [hq]; exact inx_w (by have := hX.2.1; omega) : (0 ≤ x ∧ x ≤ V 2 2 - 1) ↔ inx nD x).mp c_14
    refine lv_aload_n hx hb dX7_dialAt_17 rfl (lv_at hl 0 rfl) ?_
    refine w_getr (ci := 8) (T := TX7) hx hb hts hin_TX7 hown hK hW (hX.1 0 (by decide)).1 (hX.1 0 (by decide)).2.1 (by decide) rfl 1 (by decide) (hts (.fieldLink RX7 16 "TownClocks" "dials" "Ljava/util/ArrayList;") (by decide +kernel)) (fun _ h9 => h9) rfl ((hX.1 0 (by decide)).2.2.2 1 2 rfl) dX7_dialAt_18 ?_
    refine lv_iload_n hx hb dX7_dialAt_21 rfl (lv_at hl 1 rfl) ?_
    refine w_i (inx_e hix) ?_
    refine w_cq (w_runV ⟨hx, hb, hml, hown, hts⟩ (c_Jx4a65c_get_915e3 hxo l D q V J R 2 17 x.toNatClampNeg nD (hX.1 2 (by decide)).1 (hX.1 2 (by decide)).2.1 (hX.2.2.2.2.2 (by have := (inx_c hix).1; omega)).2.2.2.2 (hX.2.2.2.2.2 (by have := (inx_c hix).1; omega)).1 (hX.2.2.2.2.2 (by have := (inx_c hix).1; omega)).2.1 ⟨Nat.lt_of_lt_of_le (inx_c hix).1 (hX.2.2.2.2.2 (by have := (inx_c hix).1; omega)).2.2.1, (inx_c hix).2⟩ hq (inx_c hix).1 (by have := hX.2.1; omega)) hxo (cwV 1 hts gX7_dialAt_Jx4a65c_get_915e3 rfl rfl rfl (by decide +kernel) ⟨Nat.le_of_ble_eq_true rfl, Nat.le_of_ble_eq_true rfl⟩) hK hW hS hA hXs (w_rcv hK hW (hX.1 2 (by decide)).1 (hX.1 2 (by decide)).2.1 (by decide) rfl) rfl hl.1 rfl (Nat.le_of_ble_eq_true rfl) dX7_dialAt_22 ⟨Nat.zero_le _, Nat.zero_le _⟩) hW hS hA (fun H locs hW hS => ?_)
    refine w_some (hX.2.2.2.1 x.toNatClampNeg (inx_c hix).1).2.2.1 ?_
    refine w_cast hx hb hown (hts (.classLink RX7 90 "TownClocks$Dial") (by decide +kernel)) hK hW (hX.2.2.2.1 x.toNatClampNeg (inx_c hix).1).1 (hX.2.2.2.1 x.toNatClampNeg (inx_c hix).1).2.1 (by decide) rfl dX7_dialAt_25 ?_
    refine lv_goto (tgt := 32) hx hb dX7_dialAt_28 (by decide) ?_
    exact w_qret hx hb hr (Or.inl ⟨_, rfl⟩) hlk hW hS (by rw [x_at, if_pos hix]; rfl) rfl rfl rfl dX7_dialAt_32
set_option maxHeartbeats 4000000 in
set_option maxRecDepth 100000 in
theorem c_X8_in {X : (Nat → Prop) → State → Prop} (hxo : xok X) (l : Launch) (D : va_G) (q : Cq) {dm : List Nat} {kd ln ad : Nat → Nat} (V : Mv) (J : Mj) (R : Mr) (v lo hi : Int64)  : CtI X l yX8_in wsX8_in ({ frames := 0, cells := 0, slots := 0, locals := 0 }) D q dm kd ln ad V J R [.long v, .long lo, .long hi] (bz (lo ≤ v ∧ v ≤ hi)) (V) (J) (R) := by
  refine CtI_of (cc := cX8_in) (maxL := 6) (ret := (some .boolean)) (by decide +kernel) rfl (Nat.le_of_ble_eq_true rfl) ?_
  intro p e s m below meth c A hx hb hr hml hts hown hlk hmn hK hW hA hXs ls hl
  have hS : va_S A s.heap s.heap [] := va_S.rf
  have hl : lv_has ls 6 [(0, .long v), (2, .long lo), (4, .long hi)] := hl
  refine lv_lload_n hx hb dX8_in_0 rfl (lv_at hl 0 rfl) ?_
  refine lv_lload_n hx hb dX8_in_1 rfl (lv_at hl 1 rfl) ?_
  refine W.lcmp hx hb dX8_in_2 ?_
  refine w_lclt (tgt := 17) hx hb dX8_in_3 (by decide) (fun c_3 => ?_) (fun c_3 => ?_)
  · refine lv_iconst (v := 0) hx hb dX8_in_17 (by decide) ?_
    exact w_zret hx hb hr hlk hW hS (Or.inl rfl) (Eq.symm (bz_f (fun h => absurd c_3 (Int64.not_lt.mpr h.1)))) rfl rfl rfl dX8_in_18
  · refine lv_lload_n hx hb dX8_in_6 rfl (lv_at hl 0 rfl) ?_
    refine lv_lload hx hb dX8_in_7 (lv_at hl 2 rfl) ?_
    refine W.lcmp hx hb dX8_in_9 ?_
    refine w_lcgt (tgt := 17) hx hb dX8_in_10 (by decide) (fun c_10 => ?_) (fun c_10 => ?_)
    · refine lv_iconst (v := 0) hx hb dX8_in_17 (by decide) ?_
      exact w_zret hx hb hr hlk hW hS (Or.inl rfl) (Eq.symm (bz_f (fun h => absurd c_10 (Int64.not_lt.mpr h.2)))) rfl rfl rfl dX8_in_18
    · refine lv_iconst (v := 1) hx hb dX8_in_13 (by decide) ?_
      refine lv_goto (tgt := 18) hx hb dX8_in_14 (by decide) ?_
      exact w_zret hx hb hr hlk hW hS (Or.inr rfl) (Eq.symm (bz_t ⟨Int64.not_lt.mp c_3, Int64.not_lt.mp c_10⟩)) rfl rfl rfl dX8_in_18
set_option maxHeartbeats 4000000 in
set_option maxRecDepth 100000 in
theorem c_X8_isPipe {X : (Nat → Prop) → State → Prop} (hxo : xok X) (l : Launch) (D : va_G) (q : Cq) {dm : List Nat} {kd ln ad : Nat → Nat} (V : Mv) (J : Mj) (R : Mr) (nP : Nat) (x : Int32) (hM : okM dm kd ln R) (hmp : V 1000 1 = nI nP) (hnP : nP ≤ 30) : CtI X l yX8_isPipe wsX8_isPipe ({ frames := 1, cells := 0, slots := 0, locals := 25 }) D q dm kd ln ad V J R [.ref (ad 1000), .int x] (bz (inx nP x)) (V) (J) (R) := by
  refine CtI_of (cc := cX8_isPipe) (maxL := 2) (ret := (some .boolean)) (by decide +kernel) rfl (Nat.le_of_ble_eq_true rfl) ?_
  intro p e s m below meth c A hx hb hr hml hts hown hlk hmn hK hW hA hXs ls hl
  have hS : va_S A s.heap s.heap [] := va_S.rf
  have hl : lv_has ls 2 [(0, .ref (ad 1000)), (1, .int x)] := hl
  have hin_TX8 : ∀ w ∈ u_ws RX8 TX8 48, w ∈ wsX8_isPipe := by decide +kernel
  refine lv_iload_n hx hb dX8_isPipe_0 rfl (lv_at hl 1 rfl) ?_
  refine lv_i2l hx hb dX8_isPipe_1 rfl ?_
  refine lv_lconst (v := 0) hx hb dX8_isPipe_2 (by decide) ?_
  refine lv_aload_n hx hb dX8_isPipe_3 rfl (lv_at hl 0 rfl) ?_
  refine w_get (ci := 9) (T := TX8) hx hb hts hin_TX8 hown hK hW hM.1.1 hM.1.2 (by decide) rfl 1 (by decide) (hts (.fieldLink RX8 99 "TownClocksModel" "pipes" "I") (by decide +kernel)) (fun _ h9 => h9) rfl dX8_isPipe_4 ?_
  refine lv_iconst (v := 1) hx hb dX8_isPipe_7 (by decide) ?_
  refine lv_isub hx hb dX8_isPipe_8 ?_
  refine lv_i2l hx hb dX8_isPipe_9 rfl ?_
  refine w_ci (w_runS ⟨hx, hb, hml, hown, hts⟩ (c_X8_in hxo l D q V J R x.toInt64 0 (((V 1000 1) - 1).toInt64) ) hxo (va_cwS 3 hts gX8_isPipe_X8_in rfl rfl rfl (by decide +kernel) ⟨Nat.le_of_ble_eq_true rfl, Nat.le_of_ble_eq_true rfl⟩) hK hW hS hA hXs rfl hl.1 rfl (Nat.le_of_ble_eq_true rfl) dX8_isPipe_10 ⟨Nat.zero_le _, Nat.zero_le _⟩) hW hS hA (fun H locs hW hS => ?_)
  refine w_i (bz_iff (wid_l (c := 0) (d := (V 1000 1) - 1) (by decide) rfl)) ?_
  exact w_zret hx hb hr hlk hW hS (bz_or _) (bz_iff (by rw [hmp]; exact inx_w (by omega))) rfl rfl rfl dX8_isPipe_13
set_option maxHeartbeats 4000000 in
set_option maxRecDepth 100000 in
theorem c_X8_isDial {X : (Nat → Prop) → State → Prop} (hxo : xok X) (l : Launch) (D : va_G) (q : Cq) {dm : List Nat} {kd ln ad : Nat → Nat} (V : Mv) (J : Mj) (R : Mr) (nD : Nat) (x : Int32) (hM : okM dm kd ln R) (hmq : V 1000 7 = nI nD) (hnD : nD ≤ 40) : CtI X l yX8_isDial wsX8_isDial ({ frames := 1, cells := 0, slots := 0, locals := 25 }) D q dm kd ln ad V J R [.ref (ad 1000), .int x] (bz (inx nD x)) (V) (J) (R) := by
  refine CtI_of (cc := cX8_isDial) (maxL := 2) (ret := (some .boolean)) (by decide +kernel) rfl (Nat.le_of_ble_eq_true rfl) ?_
  intro p e s m below meth c A hx hb hr hml hts hown hlk hmn hK hW hA hXs ls hl
  have hS : va_S A s.heap s.heap [] := va_S.rf
  have hl : lv_has ls 2 [(0, .ref (ad 1000)), (1, .int x)] := hl
  have hin_TX8 : ∀ w ∈ u_ws RX8 TX8 48, w ∈ wsX8_isDial := by decide +kernel
  refine lv_iload_n hx hb dX8_isDial_0 rfl (lv_at hl 1 rfl) ?_
  refine lv_i2l hx hb dX8_isDial_1 rfl ?_
  refine lv_lconst (v := 0) hx hb dX8_isDial_2 (by decide) ?_
  refine lv_aload_n hx hb dX8_isDial_3 rfl (lv_at hl 0 rfl) ?_
  refine w_get (ci := 9) (T := TX8) hx hb hts hin_TX8 hown hK hW hM.1.1 hM.1.2 (by decide) rfl 7 (by decide) (hts (.fieldLink RX8 128 "TownClocksModel" "dials" "I") (by decide +kernel)) (fun _ h9 => h9) rfl dX8_isDial_4 ?_
  refine lv_iconst (v := 1) hx hb dX8_isDial_7 (by decide) ?_
  refine lv_isub hx hb dX8_isDial_8 ?_
  refine lv_i2l hx hb dX8_isDial_9 rfl ?_
  refine w_ci (w_runS ⟨hx, hb, hml, hown, hts⟩ (c_X8_in hxo l D q V J R x.toInt64 0 (((V 1000 7) - 1).toInt64) ) hxo (va_cwS 3 hts gX8_isDial_X8_in rfl rfl rfl (by decide +kernel) ⟨Nat.le_of_ble_eq_true rfl, Nat.le_of_ble_eq_true rfl⟩) hK hW hS hA hXs rfl hl.1 rfl (Nat.le_of_ble_eq_true rfl) dX8_isDial_10 ⟨Nat.zero_le _, Nat.zero_le _⟩) hW hS hA (fun H locs hW hS => ?_)
  refine w_i (bz_iff (wid_l (c := 0) (d := (V 1000 7) - 1) (by decide) rfl)) ?_
  exact w_zret hx hb hr hlk hW hS (bz_or _) (bz_iff (by rw [hmq]; exact inx_w (by omega))) rfl rfl rfl dX8_isDial_13
end
section
theorem zz_dummy : True := trivial
end
