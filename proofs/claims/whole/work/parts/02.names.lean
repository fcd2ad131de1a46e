-- ===== PART A: goes FIRST, ahead of the names: the tables' words, and 'selects' of the private methods out of them =====
/-- a private method of a class that the tables say can be made, by its rows of tables_1 -/
def lw_okq (q : MethodName × Nat) : Prop := (q.1.cls ≠ "java/lang/invoke/MethodHandle" ∧ q.1.cls ≠ "java/lang/invoke/VarHandle") ∧ Cond.instantiable q.1.cls q.2 ∈ tables_1 ∧ Cond.privateMethod q.1 ∈ tables_1 ∧ Cond.instanceMethod q.1 ∈ tables_1
theorem lw_p0 : lw_okq (⟨"TunedHouses$Scene", "mostBut", "(II)I"⟩, 5) := ⟨⟨by decide +kernel, by decide +kernel⟩, List.mem_of_getElem? (i := 217) (by decide +kernel), List.mem_of_getElem? (i := 468) (by decide +kernel), List.mem_of_getElem? (i := 469) (by decide +kernel)⟩
theorem lw_p1 : lw_okq (⟨"TunedHouses$Places", "tryFrom", "(III)V"⟩, 5) := ⟨⟨by decide +kernel, by decide +kernel⟩, List.mem_of_getElem? (i := 261) (by decide +kernel), List.mem_of_getElem? (i := 497) (by decide +kernel), List.mem_of_getElem? (i := 498) (by decide +kernel)⟩
theorem lw_p2 : lw_okq (⟨"TunedHouses$Places", "isPeaceful", "(II)Z"⟩, 5) := ⟨⟨by decide +kernel, by decide +kernel⟩, List.mem_of_getElem? (i := 261) (by decide +kernel), List.mem_of_getElem? (i := 502) (by decide +kernel), List.mem_of_getElem? (i := 503) (by decide +kernel)⟩
theorem lw_p3 : lw_okq (⟨"TunedHouses", "openText", "(II)V"⟩, 20) := ⟨⟨by decide +kernel, by decide +kernel⟩, List.mem_of_getElem? (i := 28) (by decide +kernel), List.mem_of_getElem? (i := 561) (by decide +kernel), List.mem_of_getElem? (i := 562) (by decide +kernel)⟩
theorem lw_p4 : lw_okq (⟨"java/lang/Throwable", "fillInStackTrace", "(I)Ljava/lang/Throwable;"⟩, 6) := ⟨⟨by decide +kernel, by decide +kernel⟩, List.mem_of_getElem? (i := 602) (by decide +kernel), List.mem_of_getElem? (i := 600) (by decide +kernel), List.mem_of_getElem? (i := 601) (by decide +kernel)⟩
theorem lw_p5 : lw_okq (⟨"TunedHouses$Terrace", "parseClause", "(LTunedHouses$Tape;Z)Z"⟩, 11) := ⟨⟨by decide +kernel, by decide +kernel⟩, List.mem_of_getElem? (i := 77) (by decide +kernel), List.mem_of_getElem? (i := 651) (by decide +kernel), List.mem_of_getElem? (i := 652) (by decide +kernel)⟩
theorem lw_p6 : lw_okq (⟨"TunedHouses$Tape", "fails", "(II)Z"⟩, 8) := ⟨⟨by decide +kernel, by decide +kernel⟩, List.mem_of_getElem? (i := 36) (by decide +kernel), List.mem_of_getElem? (i := 659) (by decide +kernel), List.mem_of_getElem? (i := 660) (by decide +kernel)⟩
theorem lw_p7 : lw_okq (⟨"TunedHouses$Terrace", "isFull", "(I)Z"⟩, 11) := ⟨⟨by decide +kernel, by decide +kernel⟩, List.mem_of_getElem? (i := 77) (by decide +kernel), List.mem_of_getElem? (i := 727) (by decide +kernel), List.mem_of_getElem? (i := 728) (by decide +kernel)⟩
theorem lw_p8 : lw_okq (⟨"TunedHouses$Terrace", "parseHouse", "(LTunedHouses$Tape;)Z"⟩, 11) := ⟨⟨by decide +kernel, by decide +kernel⟩, List.mem_of_getElem? (i := 77) (by decide +kernel), List.mem_of_getElem? (i := 731) (by decide +kernel), List.mem_of_getElem? (i := 732) (by decide +kernel)⟩
theorem lw_p9 : lw_okq (⟨"TunedHouses$Terrace", "parseWall", "(LTunedHouses$Tape;)Z"⟩, 11) := ⟨⟨by decide +kernel, by decide +kernel⟩, List.mem_of_getElem? (i := 77) (by decide +kernel), List.mem_of_getElem? (i := 741) (by decide +kernel), List.mem_of_getElem? (i := 742) (by decide +kernel)⟩
theorem lw_p10 : lw_okq (⟨"TunedHouses$Terrace", "parsePiano", "(LTunedHouses$Tape;)Z"⟩, 11) := ⟨⟨by decide +kernel, by decide +kernel⟩, List.mem_of_getElem? (i := 77) (by decide +kernel), List.mem_of_getElem? (i := 745) (by decide +kernel), List.mem_of_getElem? (i := 746) (by decide +kernel)⟩
theorem lw_p11 : lw_okq (⟨"TunedHouses$Terrace", "parseWish", "(LTunedHouses$Tape;)Z"⟩, 11) := ⟨⟨by decide +kernel, by decide +kernel⟩, List.mem_of_getElem? (i := 77) (by decide +kernel), List.mem_of_getElem? (i := 749) (by decide +kernel), List.mem_of_getElem? (i := 750) (by decide +kernel)⟩
theorem lw_p12 : lw_okq (⟨"TunedHouses$Terrace", "parseFelt", "(LTunedHouses$Tape;)Z"⟩, 11) := ⟨⟨by decide +kernel, by decide +kernel⟩, List.mem_of_getElem? (i := 77) (by decide +kernel), List.mem_of_getElem? (i := 753) (by decide +kernel), List.mem_of_getElem? (i := 754) (by decide +kernel)⟩
theorem lw_p13 : lw_okq (⟨"TunedHouses$Law", "parseSum", "(LTunedHouses$Tape;I)Z"⟩, 3) := ⟨⟨by decide +kernel, by decide +kernel⟩, List.mem_of_getElem? (i := 143) (by decide +kernel), List.mem_of_getElem? (i := 790) (by decide +kernel), List.mem_of_getElem? (i := 791) (by decide +kernel)⟩
theorem lw_p14 : lw_okq (⟨"TunedHouses$Law", "parseProduct", "(LTunedHouses$Tape;I)Z"⟩, 3) := ⟨⟨by decide +kernel, by decide +kernel⟩, List.mem_of_getElem? (i := 143) (by decide +kernel), List.mem_of_getElem? (i := 794) (by decide +kernel), List.mem_of_getElem? (i := 795) (by decide +kernel)⟩
theorem lw_p15 : lw_okq (⟨"TunedHouses$Law", "parseUnit", "(LTunedHouses$Tape;I)Z"⟩, 3) := ⟨⟨by decide +kernel, by decide +kernel⟩, List.mem_of_getElem? (i := 143) (by decide +kernel), List.mem_of_getElem? (i := 798) (by decide +kernel), List.mem_of_getElem? (i := 799) (by decide +kernel)⟩
def lw_privs_1 : List (MethodName × Nat) := [(⟨"TunedHouses$Scene", "mostBut", "(II)I"⟩, 5), (⟨"TunedHouses$Places", "tryFrom", "(III)V"⟩, 5), (⟨"TunedHouses$Places", "isPeaceful", "(II)Z"⟩, 5), (⟨"TunedHouses", "openText", "(II)V"⟩, 20), (⟨"java/lang/Throwable", "fillInStackTrace", "(I)Ljava/lang/Throwable;"⟩, 6), (⟨"TunedHouses$Terrace", "parseClause", "(LTunedHouses$Tape;Z)Z"⟩, 11), (⟨"TunedHouses$Tape", "fails", "(II)Z"⟩, 8), (⟨"TunedHouses$Terrace", "isFull", "(I)Z"⟩, 11), (⟨"TunedHouses$Terrace", "parseHouse", "(LTunedHouses$Tape;)Z"⟩, 11), (⟨"TunedHouses$Terrace", "parseWall", "(LTunedHouses$Tape;)Z"⟩, 11), (⟨"TunedHouses$Terrace", "parsePiano", "(LTunedHouses$Tape;)Z"⟩, 11), (⟨"TunedHouses$Terrace", "parseWish", "(LTunedHouses$Tape;)Z"⟩, 11), (⟨"TunedHouses$Terrace", "parseFelt", "(LTunedHouses$Tape;)Z"⟩, 11), (⟨"TunedHouses$Law", "parseSum", "(LTunedHouses$Tape;I)Z"⟩, 3), (⟨"TunedHouses$Law", "parseProduct", "(LTunedHouses$Tape;I)Z"⟩, 3), (⟨"TunedHouses$Law", "parseUnit", "(LTunedHouses$Tape;I)Z"⟩, 3)]
theorem lw_r1 : ∀ q ∈ lw_privs_1, lw_okq q := List.forall_mem_cons.mpr ⟨lw_p0, List.forall_mem_cons.mpr ⟨lw_p1, List.forall_mem_cons.mpr ⟨lw_p2, List.forall_mem_cons.mpr ⟨lw_p3, List.forall_mem_cons.mpr ⟨lw_p4, List.forall_mem_cons.mpr ⟨lw_p5, List.forall_mem_cons.mpr ⟨lw_p6, List.forall_mem_cons.mpr ⟨lw_p7, List.forall_mem_cons.mpr ⟨lw_p8, List.forall_mem_cons.mpr ⟨lw_p9, List.forall_mem_cons.mpr ⟨lw_p10, List.forall_mem_cons.mpr ⟨lw_p11, List.forall_mem_cons.mpr ⟨lw_p12, List.forall_mem_cons.mpr ⟨lw_p13, List.forall_mem_cons.mpr ⟨lw_p14, List.forall_mem_cons.mpr ⟨lw_p15, fun _ h => absurd h List.not_mem_nil⟩⟩⟩⟩⟩⟩⟩⟩⟩⟩⟩⟩⟩⟩⟩⟩
theorem lw_p16 : lw_okq (⟨"TunedHouses$Law", "add", "(I)V"⟩, 3) := ⟨⟨by decide +kernel, by decide +kernel⟩, List.mem_of_getElem? (i := 143) (by decide +kernel), List.mem_of_getElem? (i := 804) (by decide +kernel), List.mem_of_getElem? (i := 805) (by decide +kernel)⟩
theorem lw_p17 : lw_okq (⟨"TunedHouses$Law", "parseBracket", "(LTunedHouses$Tape;I)Z"⟩, 3) := ⟨⟨by decide +kernel, by decide +kernel⟩, List.mem_of_getElem? (i := 143) (by decide +kernel), List.mem_of_getElem? (i := 808) (by decide +kernel), List.mem_of_getElem? (i := 809) (by decide +kernel)⟩
theorem lw_p18 : lw_okq (⟨"TunedHouses$Law", "parseChoice", "(LTunedHouses$Tape;II)Z"⟩, 3) := ⟨⟨by decide +kernel, by decide +kernel⟩, List.mem_of_getElem? (i := 143) (by decide +kernel), List.mem_of_getElem? (i := 817) (by decide +kernel), List.mem_of_getElem? (i := 818) (by decide +kernel)⟩
theorem lw_p19 : lw_okq (⟨"TunedHouses$Work", "parseSteps", "(LTunedHouses$Tape;I)Z"⟩, 9) := ⟨⟨by decide +kernel, by decide +kernel⟩, List.mem_of_getElem? (i := 180) (by decide +kernel), List.mem_of_getElem? (i := 858) (by decide +kernel), List.mem_of_getElem? (i := 859) (by decide +kernel)⟩
theorem lw_p20 : lw_okq (⟨"TunedHouses$Work", "parseStep", "(LTunedHouses$Tape;I)Z"⟩, 9) := ⟨⟨by decide +kernel, by decide +kernel⟩, List.mem_of_getElem? (i := 180) (by decide +kernel), List.mem_of_getElem? (i := 864) (by decide +kernel), List.mem_of_getElem? (i := 865) (by decide +kernel)⟩
theorem lw_p21 : lw_okq (⟨"TunedHouses$Work", "takesPiano", "(LTunedHouses$Tape;)Z"⟩, 9) := ⟨⟨by decide +kernel, by decide +kernel⟩, List.mem_of_getElem? (i := 180) (by decide +kernel), List.mem_of_getElem? (i := 871) (by decide +kernel), List.mem_of_getElem? (i := 872) (by decide +kernel)⟩
theorem lw_p22 : lw_okq (⟨"TunedHouses$Work", "parseSecond", "(LTunedHouses$Tape;II)Z"⟩, 9) := ⟨⟨by decide +kernel, by decide +kernel⟩, List.mem_of_getElem? (i := 180) (by decide +kernel), List.mem_of_getElem? (i := 876) (by decide +kernel), List.mem_of_getElem? (i := 877) (by decide +kernel)⟩
theorem lw_p23 : lw_okq (⟨"TunedHouses$Work", "addStep", "(III)Z"⟩, 9) := ⟨⟨by decide +kernel, by decide +kernel⟩, List.mem_of_getElem? (i := 180) (by decide +kernel), List.mem_of_getElem? (i := 880) (by decide +kernel), List.mem_of_getElem? (i := 881) (by decide +kernel)⟩
theorem lw_p24 : lw_okq (⟨"TunedHouses$Work", "parseAgain", "(LTunedHouses$Tape;I)Z"⟩, 9) := ⟨⟨by decide +kernel, by decide +kernel⟩, List.mem_of_getElem? (i := 180) (by decide +kernel), List.mem_of_getElem? (i := 888) (by decide +kernel), List.mem_of_getElem? (i := 889) (by decide +kernel)⟩
theorem lw_p25 : lw_okq (⟨"TunedHouses$Work", "doSteps", "(LTunedHouses$Scene;III)V"⟩, 9) := ⟨⟨by decide +kernel, by decide +kernel⟩, List.mem_of_getElem? (i := 180) (by decide +kernel), List.mem_of_getElem? (i := 898) (by decide +kernel), List.mem_of_getElem? (i := 899) (by decide +kernel)⟩
theorem lw_p26 : lw_okq (⟨"TunedHouses$Work", "doStep", "(LTunedHouses$Scene;I)Z"⟩, 9) := ⟨⟨by decide +kernel, by decide +kernel⟩, List.mem_of_getElem? (i := 180) (by decide +kernel), List.mem_of_getElem? (i := 903) (by decide +kernel), List.mem_of_getElem? (i := 904) (by decide +kernel)⟩
theorem lw_p27 : lw_okq (⟨"TunedHouses$Scene", "measure", "()V"⟩, 5) := ⟨⟨by decide +kernel, by decide +kernel⟩, List.mem_of_getElem? (i := 217) (by decide +kernel), List.mem_of_getElem? (i := 931) (by decide +kernel), List.mem_of_getElem? (i := 932) (by decide +kernel)⟩
theorem lw_p28 : lw_okq (⟨"TunedHouses$Scene", "netForce", "(I)I"⟩, 5) := ⟨⟨by decide +kernel, by decide +kernel⟩, List.mem_of_getElem? (i := 217) (by decide +kernel), List.mem_of_getElem? (i := 956) (by decide +kernel), List.mem_of_getElem? (i := 957) (by decide +kernel)⟩
theorem lw_p29 : lw_okq (⟨"TunedHouses$Book", "parseLine", "(LTunedHouses$Tape;)Z"⟩, 3) := ⟨⟨by decide +kernel, by decide +kernel⟩, List.mem_of_getElem? (i := 163) (by decide +kernel), List.mem_of_getElem? (i := 983) (by decide +kernel), List.mem_of_getElem? (i := 984) (by decide +kernel)⟩
theorem lw_p30 : lw_okq (⟨"TunedHouses", "needRange", "(III)V"⟩, 20) := ⟨⟨by decide +kernel, by decide +kernel⟩, List.mem_of_getElem? (i := 28) (by decide +kernel), List.mem_of_getElem? (i := 1006) (by decide +kernel), List.mem_of_getElem? (i := 1007) (by decide +kernel)⟩
theorem lw_p31 : lw_okq (⟨"TunedHouses", "needHouse", "(I)V"⟩, 20) := ⟨⟨by decide +kernel, by decide +kernel⟩, List.mem_of_getElem? (i := 28) (by decide +kernel), List.mem_of_getElem? (i := 1035) (by decide +kernel), List.mem_of_getElem? (i := 1036) (by decide +kernel)⟩
def lw_privs_2 : List (MethodName × Nat) := [(⟨"TunedHouses$Law", "add", "(I)V"⟩, 3), (⟨"TunedHouses$Law", "parseBracket", "(LTunedHouses$Tape;I)Z"⟩, 3), (⟨"TunedHouses$Law", "parseChoice", "(LTunedHouses$Tape;II)Z"⟩, 3), (⟨"TunedHouses$Work", "parseSteps", "(LTunedHouses$Tape;I)Z"⟩, 9), (⟨"TunedHouses$Work", "parseStep", "(LTunedHouses$Tape;I)Z"⟩, 9), (⟨"TunedHouses$Work", "takesPiano", "(LTunedHouses$Tape;)Z"⟩, 9), (⟨"TunedHouses$Work", "parseSecond", "(LTunedHouses$Tape;II)Z"⟩, 9), (⟨"TunedHouses$Work", "addStep", "(III)Z"⟩, 9), (⟨"TunedHouses$Work", "parseAgain", "(LTunedHouses$Tape;I)Z"⟩, 9), (⟨"TunedHouses$Work", "doSteps", "(LTunedHouses$Scene;III)V"⟩, 9), (⟨"TunedHouses$Work", "doStep", "(LTunedHouses$Scene;I)Z"⟩, 9), (⟨"TunedHouses$Scene", "measure", "()V"⟩, 5), (⟨"TunedHouses$Scene", "netForce", "(I)I"⟩, 5), (⟨"TunedHouses$Book", "parseLine", "(LTunedHouses$Tape;)Z"⟩, 3), (⟨"TunedHouses", "needRange", "(III)V"⟩, 20), (⟨"TunedHouses", "needHouse", "(I)V"⟩, 20)]
theorem lw_r2 : ∀ q ∈ lw_privs_2, lw_okq q := List.forall_mem_cons.mpr ⟨lw_p16, List.forall_mem_cons.mpr ⟨lw_p17, List.forall_mem_cons.mpr ⟨lw_p18, List.forall_mem_cons.mpr ⟨lw_p19, List.forall_mem_cons.mpr ⟨lw_p20, List.forall_mem_cons.mpr ⟨lw_p21, List.forall_mem_cons.mpr ⟨lw_p22, List.forall_mem_cons.mpr ⟨lw_p23, List.forall_mem_cons.mpr ⟨lw_p24, List.forall_mem_cons.mpr ⟨lw_p25, List.forall_mem_cons.mpr ⟨lw_p26, List.forall_mem_cons.mpr ⟨lw_p27, List.forall_mem_cons.mpr ⟨lw_p28, List.forall_mem_cons.mpr ⟨lw_p29, List.forall_mem_cons.mpr ⟨lw_p30, List.forall_mem_cons.mpr ⟨lw_p31, fun _ h => absurd h List.not_mem_nil⟩⟩⟩⟩⟩⟩⟩⟩⟩⟩⟩⟩⟩⟩⟩⟩
theorem lw_p32 : lw_okq (⟨"TunedHouses", "needMember", "(II)V"⟩, 20) := ⟨⟨by decide +kernel, by decide +kernel⟩, List.mem_of_getElem? (i := 28) (by decide +kernel), List.mem_of_getElem? (i := 1039) (by decide +kernel), List.mem_of_getElem? (i := 1040) (by decide +kernel)⟩
theorem lw_p33 : lw_okq (⟨"TunedHouses", "needThing", "(I)V"⟩, 20) := ⟨⟨by decide +kernel, by decide +kernel⟩, List.mem_of_getElem? (i := 28) (by decide +kernel), List.mem_of_getElem? (i := 1072) (by decide +kernel), List.mem_of_getElem? (i := 1073) (by decide +kernel)⟩
theorem lw_p34 : lw_okq (⟨"TunedHouses", "needPiano", "(I)V"⟩, 20) := ⟨⟨by decide +kernel, by decide +kernel⟩, List.mem_of_getElem? (i := 28) (by decide +kernel), List.mem_of_getElem? (i := 1091) (by decide +kernel), List.mem_of_getElem? (i := 1092) (by decide +kernel)⟩
theorem lw_p35 : lw_okq (⟨"TunedHouses$Pairs", "strikeWrong", "()V"⟩, 11) := ⟨⟨by decide +kernel, by decide +kernel⟩, List.mem_of_getElem? (i := 285) (by decide +kernel), List.mem_of_getElem? (i := 1157) (by decide +kernel), List.mem_of_getElem? (i := 1158) (by decide +kernel)⟩
theorem lw_p36 : lw_okq (⟨"TunedHouses$Pairs", "begin", "()V"⟩, 11) := ⟨⟨by decide +kernel, by decide +kernel⟩, List.mem_of_getElem? (i := 285) (by decide +kernel), List.mem_of_getElem? (i := 1161) (by decide +kernel), List.mem_of_getElem? (i := 1162) (by decide +kernel)⟩
theorem lw_p37 : lw_okq (⟨"TunedHouses$Pairs", "strikeUnlike", "(I)V"⟩, 11) := ⟨⟨by decide +kernel, by decide +kernel⟩, List.mem_of_getElem? (i := 285) (by decide +kernel), List.mem_of_getElem? (i := 1171) (by decide +kernel), List.mem_of_getElem? (i := 1172) (by decide +kernel)⟩
theorem lw_p38 : lw_okq (⟨"TunedHouses$Pairs", "grow", "(I)V"⟩, 11) := ⟨⟨by decide +kernel, by decide +kernel⟩, List.mem_of_getElem? (i := 285) (by decide +kernel), List.mem_of_getElem? (i := 1175) (by decide +kernel), List.mem_of_getElem? (i := 1176) (by decide +kernel)⟩
theorem lw_p39 : lw_okq (⟨"TunedHouses$Pairs", "countLeft", "()V"⟩, 11) := ⟨⟨by decide +kernel, by decide +kernel⟩, List.mem_of_getElem? (i := 285) (by decide +kernel), List.mem_of_getElem? (i := 1184) (by decide +kernel), List.mem_of_getElem? (i := 1185) (by decide +kernel)⟩
theorem lw_p40 : lw_okq (⟨"TunedHouses$Pairs", "chooseLook", "()V"⟩, 11) := ⟨⟨by decide +kernel, by decide +kernel⟩, List.mem_of_getElem? (i := 285) (by decide +kernel), List.mem_of_getElem? (i := 1188) (by decide +kernel), List.mem_of_getElem? (i := 1189) (by decide +kernel)⟩
theorem lw_p41 : lw_okq (⟨"TunedHouses$Pairs", "mostAlike", "()I"⟩, 11) := ⟨⟨by decide +kernel, by decide +kernel⟩, List.mem_of_getElem? (i := 285) (by decide +kernel), List.mem_of_getElem? (i := 1192) (by decide +kernel), List.mem_of_getElem? (i := 1193) (by decide +kernel)⟩
theorem lw_p42 : lw_okq (⟨"TunedHouses", "needYear", "(II)V"⟩, 20) := ⟨⟨by decide +kernel, by decide +kernel⟩, List.mem_of_getElem? (i := 28) (by decide +kernel), List.mem_of_getElem? (i := 1310) (by decide +kernel), List.mem_of_getElem? (i := 1311) (by decide +kernel)⟩
theorem lw_p43 : lw_okq (⟨"TunedHouses$Year", "draw", "(I)I"⟩, 3) := ⟨⟨by decide +kernel, by decide +kernel⟩, List.mem_of_getElem? (i := 330) (by decide +kernel), List.mem_of_getElem? (i := 1319) (by decide +kernel), List.mem_of_getElem? (i := 1320) (by decide +kernel)⟩
theorem lw_p44 : lw_okq (⟨"TunedHouses$Year", "putAny", "()V"⟩, 3) := ⟨⟨by decide +kernel, by decide +kernel⟩, List.mem_of_getElem? (i := 330) (by decide +kernel), List.mem_of_getElem? (i := 1324) (by decide +kernel), List.mem_of_getElem? (i := 1325) (by decide +kernel)⟩
theorem lw_p45 : lw_okq (⟨"TunedHousesModel", "tellsNothing", "()V"⟩, 50) := ⟨⟨by decide +kernel, by decide +kernel⟩, List.mem_of_getElem? (i := 1338) (by decide +kernel), List.mem_of_getElem? (i := 1345) (by decide +kernel), List.mem_of_getElem? (i := 1346) (by decide +kernel)⟩
theorem lw_p46 : lw_okq (⟨"TunedHousesModel", "beginsAnew", "()V"⟩, 50) := ⟨⟨by decide +kernel, by decide +kernel⟩, List.mem_of_getElem? (i := 1338) (by decide +kernel), List.mem_of_getElem? (i := 1349) (by decide +kernel), List.mem_of_getElem? (i := 1350) (by decide +kernel)⟩
theorem lw_p47 : lw_okq (⟨"TunedHousesModel", "bad", "(ZII)Z"⟩, 50) := ⟨⟨by decide +kernel, by decide +kernel⟩, List.mem_of_getElem? (i := 1338) (by decide +kernel), List.mem_of_getElem? (i := 1522) (by decide +kernel), List.mem_of_getElem? (i := 1523) (by decide +kernel)⟩
def lw_privs_3 : List (MethodName × Nat) := [(⟨"TunedHouses", "needMember", "(II)V"⟩, 20), (⟨"TunedHouses", "needThing", "(I)V"⟩, 20), (⟨"TunedHouses", "needPiano", "(I)V"⟩, 20), (⟨"TunedHouses$Pairs", "strikeWrong", "()V"⟩, 11), (⟨"TunedHouses$Pairs", "begin", "()V"⟩, 11), (⟨"TunedHouses$Pairs", "strikeUnlike", "(I)V"⟩, 11), (⟨"TunedHouses$Pairs", "grow", "(I)V"⟩, 11), (⟨"TunedHouses$Pairs", "countLeft", "()V"⟩, 11), (⟨"TunedHouses$Pairs", "chooseLook", "()V"⟩, 11), (⟨"TunedHouses$Pairs", "mostAlike", "()I"⟩, 11), (⟨"TunedHouses", "needYear", "(II)V"⟩, 20), (⟨"TunedHouses$Year", "draw", "(I)I"⟩, 3), (⟨"TunedHouses$Year", "putAny", "()V"⟩, 3), (⟨"TunedHousesModel", "tellsNothing", "()V"⟩, 50), (⟨"TunedHousesModel", "beginsAnew", "()V"⟩, 50), (⟨"TunedHousesModel", "bad", "(ZII)Z"⟩, 50)]
theorem lw_r3 : ∀ q ∈ lw_privs_3, lw_okq q := List.forall_mem_cons.mpr ⟨lw_p32, List.forall_mem_cons.mpr ⟨lw_p33, List.forall_mem_cons.mpr ⟨lw_p34, List.forall_mem_cons.mpr ⟨lw_p35, List.forall_mem_cons.mpr ⟨lw_p36, List.forall_mem_cons.mpr ⟨lw_p37, List.forall_mem_cons.mpr ⟨lw_p38, List.forall_mem_cons.mpr ⟨lw_p39, List.forall_mem_cons.mpr ⟨lw_p40, List.forall_mem_cons.mpr ⟨lw_p41, List.forall_mem_cons.mpr ⟨lw_p42, List.forall_mem_cons.mpr ⟨lw_p43, List.forall_mem_cons.mpr ⟨lw_p44, List.forall_mem_cons.mpr ⟨lw_p45, List.forall_mem_cons.mpr ⟨lw_p46, List.forall_mem_cons.mpr ⟨lw_p47, fun _ h => absurd h List.not_mem_nil⟩⟩⟩⟩⟩⟩⟩⟩⟩⟩⟩⟩⟩⟩⟩⟩
theorem lw_p48 : lw_okq (⟨"TunedHousesModel", "starts", "(I)V"⟩, 50) := ⟨⟨by decide +kernel, by decide +kernel⟩, List.mem_of_getElem? (i := 1338) (by decide +kernel), List.mem_of_getElem? (i := 1526) (by decide +kernel), List.mem_of_getElem? (i := 1527) (by decide +kernel)⟩
theorem lw_p49 : lw_okq (⟨"TunedHousesModel", "blanks", "()V"⟩, 50) := ⟨⟨by decide +kernel, by decide +kernel⟩, List.mem_of_getElem? (i := 1338) (by decide +kernel), List.mem_of_getElem? (i := 1530) (by decide +kernel), List.mem_of_getElem? (i := 1531) (by decide +kernel)⟩
theorem lw_p50 : lw_okq (⟨"TunedHousesModel", "byteAt", "(I)I"⟩, 50) := ⟨⟨by decide +kernel, by decide +kernel⟩, List.mem_of_getElem? (i := 1338) (by decide +kernel), List.mem_of_getElem? (i := 1534) (by decide +kernel), List.mem_of_getElem? (i := 1535) (by decide +kernel)⟩
theorem lw_p51 : lw_okq (⟨"TunedHousesModel", "clause", "()V"⟩, 50) := ⟨⟨by decide +kernel, by decide +kernel⟩, List.mem_of_getElem? (i := 1338) (by decide +kernel), List.mem_of_getElem? (i := 1538) (by decide +kernel), List.mem_of_getElem? (i := 1539) (by decide +kernel)⟩
theorem lw_p52 : lw_okq (⟨"TunedHousesModel", "kindHere", "()I"⟩, 50) := ⟨⟨by decide +kernel, by decide +kernel⟩, List.mem_of_getElem? (i := 1338) (by decide +kernel), List.mem_of_getElem? (i := 1542) (by decide +kernel), List.mem_of_getElem? (i := 1543) (by decide +kernel)⟩
theorem lw_p53 : lw_okq (⟨"TunedHousesModel", "isWord", "(IIIIII)Z"⟩, 50) := ⟨⟨by decide +kernel, by decide +kernel⟩, List.mem_of_getElem? (i := 1338) (by decide +kernel), List.mem_of_getElem? (i := 1546) (by decide +kernel), List.mem_of_getElem? (i := 1547) (by decide +kernel)⟩
theorem lw_p54 : lw_okq (⟨"TunedHousesModel", "wordHere", "()I"⟩, 50) := ⟨⟨by decide +kernel, by decide +kernel⟩, List.mem_of_getElem? (i := 1338) (by decide +kernel), List.mem_of_getElem? (i := 1550) (by decide +kernel), List.mem_of_getElem? (i := 1551) (by decide +kernel)⟩
theorem lw_p55 : lw_okq (⟨"TunedHousesModel", "wrong", "(II)V"⟩, 50) := ⟨⟨by decide +kernel, by decide +kernel⟩, List.mem_of_getElem? (i := 1338) (by decide +kernel), List.mem_of_getElem? (i := 1560) (by decide +kernel), List.mem_of_getElem? (i := 1561) (by decide +kernel)⟩
theorem lw_p56 : lw_okq (⟨"TunedHousesModel", "skipWord", "()V"⟩, 50) := ⟨⟨by decide +kernel, by decide +kernel⟩, List.mem_of_getElem? (i := 1338) (by decide +kernel), List.mem_of_getElem? (i := 1567) (by decide +kernel), List.mem_of_getElem? (i := 1568) (by decide +kernel)⟩
theorem lw_p57 : lw_okq (⟨"TunedHousesModel", "number", "(II)I"⟩, 50) := ⟨⟨by decide +kernel, by decide +kernel⟩, List.mem_of_getElem? (i := 1338) (by decide +kernel), List.mem_of_getElem? (i := 1571) (by decide +kernel), List.mem_of_getElem? (i := 1572) (by decide +kernel)⟩
theorem lw_p58 : lw_okq (⟨"TunedHousesModel", "readHouse", "()I"⟩, 50) := ⟨⟨by decide +kernel, by decide +kernel⟩, List.mem_of_getElem? (i := 1338) (by decide +kernel), List.mem_of_getElem? (i := 1579) (by decide +kernel), List.mem_of_getElem? (i := 1580) (by decide +kernel)⟩
theorem lw_p59 : lw_okq (⟨"TunedHousesModel", "isReadWall", "(II)Z"⟩, 50) := ⟨⟨by decide +kernel, by decide +kernel⟩, List.mem_of_getElem? (i := 1338) (by decide +kernel), List.mem_of_getElem? (i := 1583) (by decide +kernel), List.mem_of_getElem? (i := 1584) (by decide +kernel)⟩
theorem lw_p60 : lw_okq (⟨"TunedHousesModel", "sign", "(I)V"⟩, 50) := ⟨⟨by decide +kernel, by decide +kernel⟩, List.mem_of_getElem? (i := 1338) (by decide +kernel), List.mem_of_getElem? (i := 1587) (by decide +kernel), List.mem_of_getElem? (i := 1588) (by decide +kernel)⟩
theorem lw_p61 : lw_okq (⟨"TunedHousesModel", "ends", "()I"⟩, 50) := ⟨⟨by decide +kernel, by decide +kernel⟩, List.mem_of_getElem? (i := 1338) (by decide +kernel), List.mem_of_getElem? (i := 1591) (by decide +kernel), List.mem_of_getElem? (i := 1592) (by decide +kernel)⟩
theorem lw_p62 : lw_okq (⟨"TunedHousesModel", "sum", "()V"⟩, 50) := ⟨⟨by decide +kernel, by decide +kernel⟩, List.mem_of_getElem? (i := 1338) (by decide +kernel), List.mem_of_getElem? (i := 1599) (by decide +kernel), List.mem_of_getElem? (i := 1600) (by decide +kernel)⟩
theorem lw_p63 : lw_okq (⟨"TunedHousesModel", "product", "()V"⟩, 50) := ⟨⟨by decide +kernel, by decide +kernel⟩, List.mem_of_getElem? (i := 1338) (by decide +kernel), List.mem_of_getElem? (i := 1603) (by decide +kernel), List.mem_of_getElem? (i := 1604) (by decide +kernel)⟩
def lw_privs_4 : List (MethodName × Nat) := [(⟨"TunedHousesModel", "starts", "(I)V"⟩, 50), (⟨"TunedHousesModel", "blanks", "()V"⟩, 50), (⟨"TunedHousesModel", "byteAt", "(I)I"⟩, 50), (⟨"TunedHousesModel", "clause", "()V"⟩, 50), (⟨"TunedHousesModel", "kindHere", "()I"⟩, 50), (⟨"TunedHousesModel", "isWord", "(IIIIII)Z"⟩, 50), (⟨"TunedHousesModel", "wordHere", "()I"⟩, 50), (⟨"TunedHousesModel", "wrong", "(II)V"⟩, 50), (⟨"TunedHousesModel", "skipWord", "()V"⟩, 50), (⟨"TunedHousesModel", "number", "(II)I"⟩, 50), (⟨"TunedHousesModel", "readHouse", "()I"⟩, 50), (⟨"TunedHousesModel", "isReadWall", "(II)Z"⟩, 50), (⟨"TunedHousesModel", "sign", "(I)V"⟩, 50), (⟨"TunedHousesModel", "ends", "()I"⟩, 50), (⟨"TunedHousesModel", "sum", "()V"⟩, 50), (⟨"TunedHousesModel", "product", "()V"⟩, 50)]
theorem lw_r4 : ∀ q ∈ lw_privs_4, lw_okq q := List.forall_mem_cons.mpr ⟨lw_p48, List.forall_mem_cons.mpr ⟨lw_p49, List.forall_mem_cons.mpr ⟨lw_p50, List.forall_mem_cons.mpr ⟨lw_p51, List.forall_mem_cons.mpr ⟨lw_p52, List.forall_mem_cons.mpr ⟨lw_p53, List.forall_mem_cons.mpr ⟨lw_p54, List.forall_mem_cons.mpr ⟨lw_p55, List.forall_mem_cons.mpr ⟨lw_p56, List.forall_mem_cons.mpr ⟨lw_p57, List.forall_mem_cons.mpr ⟨lw_p58, List.forall_mem_cons.mpr ⟨lw_p59, List.forall_mem_cons.mpr ⟨lw_p60, List.forall_mem_cons.mpr ⟨lw_p61, List.forall_mem_cons.mpr ⟨lw_p62, List.forall_mem_cons.mpr ⟨lw_p63, fun _ h => absurd h List.not_mem_nil⟩⟩⟩⟩⟩⟩⟩⟩⟩⟩⟩⟩⟩⟩⟩⟩
theorem lw_p64 : lw_okq (⟨"TunedHousesModel", "one", "()V"⟩, 50) := ⟨⟨by decide +kernel, by decide +kernel⟩, List.mem_of_getElem? (i := 1338) (by decide +kernel), List.mem_of_getElem? (i := 1607) (by decide +kernel), List.mem_of_getElem? (i := 1608) (by decide +kernel)⟩
theorem lw_p65 : lw_okq (⟨"TunedHousesModel", "opensOne", "()Z"⟩, 50) := ⟨⟨by decide +kernel, by decide +kernel⟩, List.mem_of_getElem? (i := 1338) (by decide +kernel), List.mem_of_getElem? (i := 1611) (by decide +kernel), List.mem_of_getElem? (i := 1612) (by decide +kernel)⟩
theorem lw_p66 : lw_okq (⟨"TunedHousesModel", "notes", "(II)V"⟩, 50) := ⟨⟨by decide +kernel, by decide +kernel⟩, List.mem_of_getElem? (i := 1338) (by decide +kernel), List.mem_of_getElem? (i := 1615) (by decide +kernel), List.mem_of_getElem? (i := 1616) (by decide +kernel)⟩
theorem lw_p67 : lw_okq (⟨"TunedHousesModel", "knownHere", "()I"⟩, 50) := ⟨⟨by decide +kernel, by decide +kernel⟩, List.mem_of_getElem? (i := 1338) (by decide +kernel), List.mem_of_getElem? (i := 1619) (by decide +kernel), List.mem_of_getElem? (i := 1620) (by decide +kernel)⟩
theorem lw_p68 : lw_okq (⟨"TunedHousesModel", "takes", "(IIIIII)Z"⟩, 50) := ⟨⟨by decide +kernel, by decide +kernel⟩, List.mem_of_getElem? (i := 1338) (by decide +kernel), List.mem_of_getElem? (i := 1623) (by decide +kernel), List.mem_of_getElem? (i := 1624) (by decide +kernel)⟩
theorem lw_p69 : lw_okq (⟨"TunedHousesModel", "takesSign", "(I)Z"⟩, 50) := ⟨⟨by decide +kernel, by decide +kernel⟩, List.mem_of_getElem? (i := 1338) (by decide +kernel), List.mem_of_getElem? (i := 1627) (by decide +kernel), List.mem_of_getElem? (i := 1628) (by decide +kernel)⟩
theorem lw_p70 : lw_okq (⟨"TunedHousesModel", "readsStep", "()V"⟩, 50) := ⟨⟨by decide +kernel, by decide +kernel⟩, List.mem_of_getElem? (i := 1338) (by decide +kernel), List.mem_of_getElem? (i := 1643) (by decide +kernel), List.mem_of_getElem? (i := 1644) (by decide +kernel)⟩
theorem lw_p71 : lw_okq (⟨"TunedHousesModel", "stepHere", "()I"⟩, 50) := ⟨⟨by decide +kernel, by decide +kernel⟩, List.mem_of_getElem? (i := 1338) (by decide +kernel), List.mem_of_getElem? (i := 1647) (by decide +kernel), List.mem_of_getElem? (i := 1648) (by decide +kernel)⟩
theorem lw_p72 : lw_okq (⟨"TunedHousesModel", "goes", "(II)V"⟩, 50) := ⟨⟨by decide +kernel, by decide +kernel⟩, List.mem_of_getElem? (i := 1338) (by decide +kernel), List.mem_of_getElem? (i := 1654) (by decide +kernel), List.mem_of_getElem? (i := 1655) (by decide +kernel)⟩
theorem lw_p73 : lw_okq (⟨"TunedHousesModel", "does", "([I[I)Z"⟩, 50) := ⟨⟨by decide +kernel, by decide +kernel⟩, List.mem_of_getElem? (i := 1338) (by decide +kernel), List.mem_of_getElem? (i := 1658) (by decide +kernel), List.mem_of_getElem? (i := 1659) (by decide +kernel)⟩
theorem lw_p74 : lw_okq (⟨"TunedHousesModel", "puts2", "([III)Z"⟩, 50) := ⟨⟨by decide +kernel, by decide +kernel⟩, List.mem_of_getElem? (i := 1338) (by decide +kernel), List.mem_of_getElem? (i := 1662) (by decide +kernel), List.mem_of_getElem? (i := 1663) (by decide +kernel)⟩
theorem lw_p75 : lw_okq (⟨"TunedHousesModel", "pianoIn", "([II)I"⟩, 50) := ⟨⟨by decide +kernel, by decide +kernel⟩, List.mem_of_getElem? (i := 1338) (by decide +kernel), List.mem_of_getElem? (i := 1666) (by decide +kernel), List.mem_of_getElem? (i := 1667) (by decide +kernel)⟩
theorem lw_p76 : lw_okq (⟨"TunedHousesModel", "dayEnds", "([I)V"⟩, 50) := ⟨⟨by decide +kernel, by decide +kernel⟩, List.mem_of_getElem? (i := 1338) (by decide +kernel), List.mem_of_getElem? (i := 1670) (by decide +kernel), List.mem_of_getElem? (i := 1671) (by decide +kernel)⟩
theorem lw_p77 : lw_okq (⟨"TunedHousesModel", "brings", "([II)I"⟩, 50) := ⟨⟨by decide +kernel, by decide +kernel⟩, List.mem_of_getElem? (i := 1338) (by decide +kernel), List.mem_of_getElem? (i := 1674) (by decide +kernel), List.mem_of_getElem? (i := 1675) (by decide +kernel)⟩
theorem lw_p78 : lw_okq (⟨"TunedHousesModel", "forceOf", "([II)I"⟩, 50) := ⟨⟨by decide +kernel, by decide +kernel⟩, List.mem_of_getElem? (i := 1338) (by decide +kernel), List.mem_of_getElem? (i := 1678) (by decide +kernel), List.mem_of_getElem? (i := 1679) (by decide +kernel)⟩
theorem lw_p79 : lw_okq (⟨"TunedHousesModel", "forceWith", "([III)I"⟩, 50) := ⟨⟨by decide +kernel, by decide +kernel⟩, List.mem_of_getElem? (i := 1338) (by decide +kernel), List.mem_of_getElem? (i := 1682) (by decide +kernel), List.mem_of_getElem? (i := 1683) (by decide +kernel)⟩
def lw_privs_5 : List (MethodName × Nat) := [(⟨"TunedHousesModel", "one", "()V"⟩, 50), (⟨"TunedHousesModel", "opensOne", "()Z"⟩, 50), (⟨"TunedHousesModel", "notes", "(II)V"⟩, 50), (⟨"TunedHousesModel", "knownHere", "()I"⟩, 50), (⟨"TunedHousesModel", "takes", "(IIIIII)Z"⟩, 50), (⟨"TunedHousesModel", "takesSign", "(I)Z"⟩, 50), (⟨"TunedHousesModel", "readsStep", "()V"⟩, 50), (⟨"TunedHousesModel", "stepHere", "()I"⟩, 50), (⟨"TunedHousesModel", "goes", "(II)V"⟩, 50), (⟨"TunedHousesModel", "does", "([I[I)Z"⟩, 50), (⟨"TunedHousesModel", "puts2", "([III)Z"⟩, 50), (⟨"TunedHousesModel", "pianoIn", "([II)I"⟩, 50), (⟨"TunedHousesModel", "dayEnds", "([I)V"⟩, 50), (⟨"TunedHousesModel", "brings", "([II)I"⟩, 50), (⟨"TunedHousesModel", "forceOf", "([II)I"⟩, 50), (⟨"TunedHousesModel", "forceWith", "([III)I"⟩, 50)]
theorem lw_r5 : ∀ q ∈ lw_privs_5, lw_okq q := List.forall_mem_cons.mpr ⟨lw_p64, List.forall_mem_cons.mpr ⟨lw_p65, List.forall_mem_cons.mpr ⟨lw_p66, List.forall_mem_cons.mpr ⟨lw_p67, List.forall_mem_cons.mpr ⟨lw_p68, List.forall_mem_cons.mpr ⟨lw_p69, List.forall_mem_cons.mpr ⟨lw_p70, List.forall_mem_cons.mpr ⟨lw_p71, List.forall_mem_cons.mpr ⟨lw_p72, List.forall_mem_cons.mpr ⟨lw_p73, List.forall_mem_cons.mpr ⟨lw_p74, List.forall_mem_cons.mpr ⟨lw_p75, List.forall_mem_cons.mpr ⟨lw_p76, List.forall_mem_cons.mpr ⟨lw_p77, List.forall_mem_cons.mpr ⟨lw_p78, List.forall_mem_cons.mpr ⟨lw_p79, fun _ h => absurd h List.not_mem_nil⟩⟩⟩⟩⟩⟩⟩⟩⟩⟩⟩⟩⟩⟩⟩⟩
theorem lw_p80 : lw_okq (⟨"TunedHousesModel", "isBeside", "([III)Z"⟩, 50) := ⟨⟨by decide +kernel, by decide +kernel⟩, List.mem_of_getElem? (i := 1338) (by decide +kernel), List.mem_of_getElem? (i := 1686) (by decide +kernel), List.mem_of_getElem? (i := 1687) (by decide +kernel)⟩
theorem lw_p81 : lw_okq (⟨"TunedHousesModel", "isWall", "(II)Z"⟩, 50) := ⟨⟨by decide +kernel, by decide +kernel⟩, List.mem_of_getElem? (i := 1338) (by decide +kernel), List.mem_of_getElem? (i := 1690) (by decide +kernel), List.mem_of_getElem? (i := 1691) (by decide +kernel)⟩
theorem lw_p82 : lw_okq (⟨"TunedHousesModel", "forceBy", "(IIIIIIII)I"⟩, 50) := ⟨⟨by decide +kernel, by decide +kernel⟩, List.mem_of_getElem? (i := 1338) (by decide +kernel), List.mem_of_getElem? (i := 1694) (by decide +kernel), List.mem_of_getElem? (i := 1695) (by decide +kernel)⟩
theorem lw_p83 : lw_okq (⟨"TunedHousesModel", "byLaw", "()I"⟩, 50) := ⟨⟨by decide +kernel, by decide +kernel⟩, List.mem_of_getElem? (i := 1338) (by decide +kernel), List.mem_of_getElem? (i := 1698) (by decide +kernel), List.mem_of_getElem? (i := 1699) (by decide +kernel)⟩
theorem lw_p84 : lw_okq (⟨"TunedHousesModel", "isFight", "([III)Z"⟩, 50) := ⟨⟨by decide +kernel, by decide +kernel⟩, List.mem_of_getElem? (i := 1338) (by decide +kernel), List.mem_of_getElem? (i := 1711) (by decide +kernel), List.mem_of_getElem? (i := 1712) (by decide +kernel)⟩
theorem lw_p85 : lw_okq (⟨"TunedHousesModel", "fightsOf", "([II)I"⟩, 50) := ⟨⟨by decide +kernel, by decide +kernel⟩, List.mem_of_getElem? (i := 1338) (by decide +kernel), List.mem_of_getElem? (i := 1723) (by decide +kernel), List.mem_of_getElem? (i := 1724) (by decide +kernel)⟩
theorem lw_p86 : lw_okq (⟨"TunedHousesModel", "wishedIn", "([I)I"⟩, 50) := ⟨⟨by decide +kernel, by decide +kernel⟩, List.mem_of_getElem? (i := 1338) (by decide +kernel), List.mem_of_getElem? (i := 1727) (by decide +kernel), List.mem_of_getElem? (i := 1728) (by decide +kernel)⟩
theorem lw_p87 : lw_okq (⟨"TunedHousesModel", "thingOf", "([II)I"⟩, 50) := ⟨⟨by decide +kernel, by decide +kernel⟩, List.mem_of_getElem? (i := 1338) (by decide +kernel), List.mem_of_getElem? (i := 1731) (by decide +kernel), List.mem_of_getElem? (i := 1732) (by decide +kernel)⟩
theorem lw_p88 : lw_okq (⟨"TunedHousesModel", "amount", "([III)I"⟩, 50) := ⟨⟨by decide +kernel, by decide +kernel⟩, List.mem_of_getElem? (i := 1338) (by decide +kernel), List.mem_of_getElem? (i := 1735) (by decide +kernel), List.mem_of_getElem? (i := 1736) (by decide +kernel)⟩
theorem lw_p89 : lw_okq (⟨"TunedHousesModel", "allIn", "([I)I"⟩, 50) := ⟨⟨by decide +kernel, by decide +kernel⟩, List.mem_of_getElem? (i := 1338) (by decide +kernel), List.mem_of_getElem? (i := 1739) (by decide +kernel), List.mem_of_getElem? (i := 1740) (by decide +kernel)⟩
theorem lw_p90 : lw_okq (⟨"TunedHousesModel", "isHouse", "(I)Z"⟩, 50) := ⟨⟨by decide +kernel, by decide +kernel⟩, List.mem_of_getElem? (i := 1338) (by decide +kernel), List.mem_of_getElem? (i := 1747) (by decide +kernel), List.mem_of_getElem? (i := 1748) (by decide +kernel)⟩
theorem lw_p91 : lw_okq (⟨"TunedHousesModel", "isPiano", "(I)Z"⟩, 50) := ⟨⟨by decide +kernel, by decide +kernel⟩, List.mem_of_getElem? (i := 1338) (by decide +kernel), List.mem_of_getElem? (i := 1766) (by decide +kernel), List.mem_of_getElem? (i := 1767) (by decide +kernel)⟩
theorem lw_p92 : lw_okq (⟨"TunedHousesModel", "placesAll", "()V"⟩, 50) := ⟨⟨by decide +kernel, by decide +kernel⟩, List.mem_of_getElem? (i := 1338) (by decide +kernel), List.mem_of_getElem? (i := 1790) (by decide +kernel), List.mem_of_getElem? (i := 1791) (by decide +kernel)⟩
theorem lw_p93 : lw_okq (⟨"TunedHousesModel", "putsFrom", "(II)V"⟩, 50) := ⟨⟨by decide +kernel, by decide +kernel⟩, List.mem_of_getElem? (i := 1338) (by decide +kernel), List.mem_of_getElem? (i := 1794) (by decide +kernel), List.mem_of_getElem? (i := 1795) (by decide +kernel)⟩
theorem lw_p94 : lw_okq (⟨"TunedHousesModel", "laysHeard", "(III)V"⟩, 50) := ⟨⟨by decide +kernel, by decide +kernel⟩, List.mem_of_getElem? (i := 1338) (by decide +kernel), List.mem_of_getElem? (i := 1806) (by decide +kernel), List.mem_of_getElem? (i := 1807) (by decide +kernel)⟩
theorem lw_p95 : lw_okq (⟨"TunedHousesModel", "isHeard", "()Z"⟩, 50) := ⟨⟨by decide +kernel, by decide +kernel⟩, List.mem_of_getElem? (i := 1338) (by decide +kernel), List.mem_of_getElem? (i := 1810) (by decide +kernel), List.mem_of_getElem? (i := 1811) (by decide +kernel)⟩
def lw_privs_6 : List (MethodName × Nat) := [(⟨"TunedHousesModel", "isBeside", "([III)Z"⟩, 50), (⟨"TunedHousesModel", "isWall", "(II)Z"⟩, 50), (⟨"TunedHousesModel", "forceBy", "(IIIIIIII)I"⟩, 50), (⟨"TunedHousesModel", "byLaw", "()I"⟩, 50), (⟨"TunedHousesModel", "isFight", "([III)Z"⟩, 50), (⟨"TunedHousesModel", "fightsOf", "([II)I"⟩, 50), (⟨"TunedHousesModel", "wishedIn", "([I)I"⟩, 50), (⟨"TunedHousesModel", "thingOf", "([II)I"⟩, 50), (⟨"TunedHousesModel", "amount", "([III)I"⟩, 50), (⟨"TunedHousesModel", "allIn", "([I)I"⟩, 50), (⟨"TunedHousesModel", "isHouse", "(I)Z"⟩, 50), (⟨"TunedHousesModel", "isPiano", "(I)Z"⟩, 50), (⟨"TunedHousesModel", "placesAll", "()V"⟩, 50), (⟨"TunedHousesModel", "putsFrom", "(II)V"⟩, 50), (⟨"TunedHousesModel", "laysHeard", "(III)V"⟩, 50), (⟨"TunedHousesModel", "isHeard", "()Z"⟩, 50)]
theorem lw_r6 : ∀ q ∈ lw_privs_6, lw_okq q := List.forall_mem_cons.mpr ⟨lw_p80, List.forall_mem_cons.mpr ⟨lw_p81, List.forall_mem_cons.mpr ⟨lw_p82, List.forall_mem_cons.mpr ⟨lw_p83, List.forall_mem_cons.mpr ⟨lw_p84, List.forall_mem_cons.mpr ⟨lw_p85, List.forall_mem_cons.mpr ⟨lw_p86, List.forall_mem_cons.mpr ⟨lw_p87, List.forall_mem_cons.mpr ⟨lw_p88, List.forall_mem_cons.mpr ⟨lw_p89, List.forall_mem_cons.mpr ⟨lw_p90, List.forall_mem_cons.mpr ⟨lw_p91, List.forall_mem_cons.mpr ⟨lw_p92, List.forall_mem_cons.mpr ⟨lw_p93, List.forall_mem_cons.mpr ⟨lw_p94, List.forall_mem_cons.mpr ⟨lw_p95, fun _ h => absurd h List.not_mem_nil⟩⟩⟩⟩⟩⟩⟩⟩⟩⟩⟩⟩⟩⟩⟩⟩
theorem lw_p96 : lw_okq (⟨"TunedHousesModel", "isTold", "(I)Z"⟩, 50) := ⟨⟨by decide +kernel, by decide +kernel⟩, List.mem_of_getElem? (i := 1338) (by decide +kernel), List.mem_of_getElem? (i := 1818) (by decide +kernel), List.mem_of_getElem? (i := 1819) (by decide +kernel)⟩
theorem lw_p97 : lw_okq (⟨"TunedHousesModel", "givenBy", "(II)I"⟩, 50) := ⟨⟨by decide +kernel, by decide +kernel⟩, List.mem_of_getElem? (i := 1338) (by decide +kernel), List.mem_of_getElem? (i := 1854) (by decide +kernel), List.mem_of_getElem? (i := 1855) (by decide +kernel)⟩
theorem lw_p98 : lw_okq (⟨"TunedHousesModel", "changedIn", "([I)I"⟩, 50) := ⟨⟨by decide +kernel, by decide +kernel⟩, List.mem_of_getElem? (i := 1338) (by decide +kernel), List.mem_of_getElem? (i := 1890) (by decide +kernel), List.mem_of_getElem? (i := 1891) (by decide +kernel)⟩
theorem lw_p99 : lw_okq (⟨"TunedHousesModel", "yearBy", "(III)V"⟩, 50) := ⟨⟨by decide +kernel, by decide +kernel⟩, List.mem_of_getElem? (i := 1338) (by decide +kernel), List.mem_of_getElem? (i := 1901) (by decide +kernel), List.mem_of_getElem? (i := 1902) (by decide +kernel)⟩
theorem lw_p100 : lw_okq (⟨"TunedHousesModel", "draw", "(I)I"⟩, 50) := ⟨⟨by decide +kernel, by decide +kernel⟩, List.mem_of_getElem? (i := 1338) (by decide +kernel), List.mem_of_getElem? (i := 1905) (by decide +kernel), List.mem_of_getElem? (i := 1906) (by decide +kernel)⟩
theorem lw_p101 : lw_okq (⟨"TunedHousesModel", "putsAll", "([IZ)V"⟩, 50) := ⟨⟨by decide +kernel, by decide +kernel⟩, List.mem_of_getElem? (i := 1338) (by decide +kernel), List.mem_of_getElem? (i := 1918) (by decide +kernel), List.mem_of_getElem? (i := 1919) (by decide +kernel)⟩
theorem lw_p102 : lw_okq (⟨"TunedHousesModel", "puts", "([IIZ)I"⟩, 50) := ⟨⟨by decide +kernel, by decide +kernel⟩, List.mem_of_getElem? (i := 1338) (by decide +kernel), List.mem_of_getElem? (i := 1922) (by decide +kernel), List.mem_of_getElem? (i := 1923) (by decide +kernel)⟩
def lw_privs_7 : List (MethodName × Nat) := [(⟨"TunedHousesModel", "isTold", "(I)Z"⟩, 50), (⟨"TunedHousesModel", "givenBy", "(II)I"⟩, 50), (⟨"TunedHousesModel", "changedIn", "([I)I"⟩, 50), (⟨"TunedHousesModel", "yearBy", "(III)V"⟩, 50), (⟨"TunedHousesModel", "draw", "(I)I"⟩, 50), (⟨"TunedHousesModel", "putsAll", "([IZ)V"⟩, 50), (⟨"TunedHousesModel", "puts", "([IIZ)I"⟩, 50)]
theorem lw_r7 : ∀ q ∈ lw_privs_7, lw_okq q := List.forall_mem_cons.mpr ⟨lw_p96, List.forall_mem_cons.mpr ⟨lw_p97, List.forall_mem_cons.mpr ⟨lw_p98, List.forall_mem_cons.mpr ⟨lw_p99, List.forall_mem_cons.mpr ⟨lw_p100, List.forall_mem_cons.mpr ⟨lw_p101, List.forall_mem_cons.mpr ⟨lw_p102, fun _ h => absurd h List.not_mem_nil⟩⟩⟩⟩⟩⟩⟩
def lw_privs : List (MethodName × Nat) := lw_privs_1 ++ (lw_privs_2 ++ (lw_privs_3 ++ (lw_privs_4 ++ (lw_privs_5 ++ (lw_privs_6 ++ (lw_privs_7))))))
def lw_tbl : List Cond := k2_sels lw_privs ++ tables_1
theorem lw_privs_ok : ∀ q ∈ lw_privs, lw_okq q := by
  show ∀ q ∈ lw_privs_1 ++ (lw_privs_2 ++ (lw_privs_3 ++ (lw_privs_4 ++ (lw_privs_5 ++ (lw_privs_6 ++ (lw_privs_7)))))), lw_okq q
  exact List.forall_mem_append.mpr ⟨lw_r1, List.forall_mem_append.mpr ⟨lw_r2, List.forall_mem_append.mpr ⟨lw_r3, List.forall_mem_append.mpr ⟨lw_r4, List.forall_mem_append.mpr ⟨lw_r5, List.forall_mem_append.mpr ⟨lw_r6, lw_r7⟩⟩⟩⟩⟩⟩
def RX0 : String := "TunedHouses$Book"
def TX0 : u_T := fun k => match k with
  | 0 => ("TunedHouses$Book", "lines", "I", false)
  | 1 => ("TunedHouses$Book", "days", "[I", true)
  | _ => ("TunedHouses$Book", "amounts", "[I", true)
def tyX0 : Nat → FieldType := fun k => match k with
  | 0 => .int
  | 1 => .array .int
  | _ => .array .int
abbrev wsX00 : List Cond := u_ws RX0 TX0 3
theorem nmX0 : ∀ a, a < 3 → ∀ b, b < 3 → a ≠ b → (TX0 a).2.1 ≠ (TX0 b).2.1 := by decide +kernel
theorem tyX0_ok : ∀ k, k < 3 → parseFieldDescriptor (TX0 k).2.2.1 = some (tyX0 k) := by decide +kernel
abbrev cX0_init : ByteArray := prog_2_method_1_code
def yX0_init : MethodName := ⟨RX0, "<init>", "()V"⟩
abbrev cX0_clear : ByteArray := prog_2_method_2_code
def yX0_clear : MethodName := ⟨RX0, "clear", "()V"⟩
abbrev cX0_copyFrom : ByteArray := prog_2_method_3_code
def yX0_copyFrom : MethodName := ⟨RX0, "copyFrom", "(LTunedHouses$Book;)V"⟩
abbrev cX0_parse : ByteArray := prog_2_method_4_code
def yX0_parse : MethodName := ⟨RX0, "parse", "(LTunedHouses$Tape;)Z"⟩
abbrev cX0_parseLine : ByteArray := prog_2_method_5_code
def yX0_parseLine : MethodName := ⟨RX0, "parseLine", "(LTunedHouses$Tape;)Z"⟩
abbrev cX0_amountAfter : ByteArray := prog_2_method_6_code
def yX0_amountAfter : MethodName := ⟨RX0, "amountAfter", "(I)I"⟩
abbrev cX0_latestDay : ByteArray := prog_2_method_7_code
def yX0_latestDay : MethodName := ⟨RX0, "latestDay", "()I"⟩
def RX1 : String := "TunedHouses$Image"
def TX1 : u_T := fun k => match k with
  | 0 => ("TunedHouses$Image", "cells", "[I", true)
  | _ => ("TunedHouses$Image", "past", "LTunedHouses$Past;", true)
def tyX1 : Nat → FieldType := fun k => match k with
  | 0 => .array .int
  | _ => .object "TunedHouses$Past"
abbrev wsX10 : List Cond := u_ws RX1 TX1 2
theorem nmX1 : ∀ a, a < 2 → ∀ b, b < 2 → a ≠ b → (TX1 a).2.1 ≠ (TX1 b).2.1 := by decide +kernel
theorem tyX1_ok : ∀ k, k < 2 → parseFieldDescriptor (TX1 k).2.2.1 = some (tyX1 k) := by decide +kernel
abbrev cX1_init : ByteArray := prog_3_method_1_code
def yX1_init : MethodName := ⟨RX1, "<init>", "()V"⟩
abbrev cX1_take : ByteArray := prog_3_method_2_code
def yX1_take : MethodName := ⟨RX1, "take", "(LTunedHouses$Scene;LTunedHouses$Past;)V"⟩
abbrev cX1_giveTo : ByteArray := prog_3_method_3_code
def yX1_giveTo : MethodName := ⟨RX1, "giveTo", "(LTunedHouses$Scene;LTunedHouses$Past;)V"⟩
def RX2 : String := "TunedHouses$Law"
def TX2 : u_T := fun k => match k with
  | 0 => ("TunedHouses$Law", "codes", "[I", true)
  | 1 => ("TunedHouses$Law", "stack", "[I", true)
  | _ => ("TunedHouses$Law", "length", "I", false)
def tyX2 : Nat → FieldType := fun k => match k with
  | 0 => .array .int
  | 1 => .array .int
  | _ => .int
abbrev wsX20 : List Cond := u_ws RX2 TX2 3
theorem nmX2 : ∀ a, a < 3 → ∀ b, b < 3 → a ≠ b → (TX2 a).2.1 ≠ (TX2 b).2.1 := by decide +kernel
theorem tyX2_ok : ∀ k, k < 3 → parseFieldDescriptor (TX2 k).2.2.1 = some (tyX2 k) := by decide +kernel
abbrev cX2_init : ByteArray := prog_4_method_1_code
def yX2_init : MethodName := ⟨RX2, "<init>", "()V"⟩
abbrev cX2_clear : ByteArray := prog_4_method_2_code
def yX2_clear : MethodName := ⟨RX2, "clear", "()V"⟩
abbrev cX2_copyFrom : ByteArray := prog_4_method_3_code
def yX2_copyFrom : MethodName := ⟨RX2, "copyFrom", "(LTunedHouses$Law;)V"⟩
abbrev cX2_parse : ByteArray := prog_4_method_4_code
def yX2_parse : MethodName := ⟨RX2, "parse", "(LTunedHouses$Tape;)Z"⟩
abbrev cX2_parseSum : ByteArray := prog_4_method_5_code
def yX2_parseSum : MethodName := ⟨RX2, "parseSum", "(LTunedHouses$Tape;I)Z"⟩
abbrev cX2_parseProduct : ByteArray := prog_4_method_6_code
def yX2_parseProduct : MethodName := ⟨RX2, "parseProduct", "(LTunedHouses$Tape;I)Z"⟩
abbrev cX2_parseUnit : ByteArray := prog_4_method_7_code
def yX2_parseUnit : MethodName := ⟨RX2, "parseUnit", "(LTunedHouses$Tape;I)Z"⟩
abbrev cX2_parseBracket : ByteArray := prog_4_method_8_code
def yX2_parseBracket : MethodName := ⟨RX2, "parseBracket", "(LTunedHouses$Tape;I)Z"⟩
abbrev cX2_parseChoice : ByteArray := prog_4_method_9_code
def yX2_parseChoice : MethodName := ⟨RX2, "parseChoice", "(LTunedHouses$Tape;II)Z"⟩
abbrev cX2_inputNamed : ByteArray := prog_4_method_10_code
def yX2_inputNamed : MethodName := ⟨RX2, "inputNamed", "(LTunedHouses$Tape;)I"⟩
abbrev cX2_add : ByteArray := prog_4_method_11_code
def yX2_add : MethodName := ⟨RX2, "add", "(I)V"⟩
abbrev cX2_force : ByteArray := prog_4_method_12_code
def yX2_force : MethodName := ⟨RX2, "force", "([I)I"⟩
abbrev cX2_joined : ByteArray := prog_4_method_13_code
def yX2_joined : MethodName := ⟨RX2, "joined", "(III)I"⟩
def RX3 : String := "TunedHouses$Pairs"
def TX3 : u_T := fun k => match k with
  | 0 => ("TunedHouses$Pairs", "law", "LTunedHouses$Law;", true)
  | 1 => ("TunedHouses$Pairs", "book", "LTunedHouses$Book;", true)
  | 2 => ("TunedHouses$Pairs", "amounts", "[I", true)
  | 3 => ("TunedHouses$Pairs", "right", "[Z", true)
  | 4 => ("TunedHouses$Pairs", "tally", "[I", true)
  | 5 => ("TunedHouses$Pairs", "inputs", "[I", true)
  | 6 => ("TunedHouses$Pairs", "house", "I", false)
  | 7 => ("TunedHouses$Pairs", "left", "I", false)
  | 8 => ("TunedHouses$Pairs", "first", "I", false)
  | 9 => ("TunedHouses$Pairs", "lookDay", "I", false)
  | _ => ("TunedHouses$Pairs", "lookWorst", "I", false)
def tyX3 : Nat → FieldType := fun k => match k with
  | 0 => .object "TunedHouses$Law"
  | 1 => .object "TunedHouses$Book"
  | 2 => .array .int
  | 3 => .array .boolean
  | 4 => .array .int
  | 5 => .array .int
  | 6 => .int
  | 7 => .int
  | 8 => .int
  | 9 => .int
  | _ => .int
abbrev wsX30 : List Cond := u_ws RX3 TX3 11
theorem nmX3 : ∀ a, a < 11 → ∀ b, b < 11 → a ≠ b → (TX3 a).2.1 ≠ (TX3 b).2.1 := by decide +kernel
theorem tyX3_ok : ∀ k, k < 11 → parseFieldDescriptor (TX3 k).2.2.1 = some (tyX3 k) := by decide +kernel
abbrev cX3_init : ByteArray := prog_5_method_1_code
def yX3_init : MethodName := ⟨RX3, "<init>", "(LTunedHouses$Law;LTunedHouses$Book;)V"⟩
abbrev cX3_forget : ByteArray := prog_5_method_2_code
def yX3_forget : MethodName := ⟨RX3, "forget", "()V"⟩
abbrev cX3_ask : ByteArray := prog_5_method_3_code
def yX3_ask : MethodName := ⟨RX3, "ask", "(I)V"⟩
abbrev cX3_strikeWrong : ByteArray := prog_5_method_4_code
def yX3_strikeWrong : MethodName := ⟨RX3, "strikeWrong", "()V"⟩
abbrev cX3_strikeUnlike : ByteArray := prog_5_method_5_code
def yX3_strikeUnlike : MethodName := ⟨RX3, "strikeUnlike", "(I)V"⟩
abbrev cX3_countLeft : ByteArray := prog_5_method_6_code
def yX3_countLeft : MethodName := ⟨RX3, "countLeft", "()V"⟩
abbrev cX3_chooseLook : ByteArray := prog_5_method_7_code
def yX3_chooseLook : MethodName := ⟨RX3, "chooseLook", "()V"⟩
abbrev cX3_begin : ByteArray := prog_5_method_8_code
def yX3_begin : MethodName := ⟨RX3, "begin", "()V"⟩
abbrev cX3_strongOf : ByteArray := prog_5_method_9_code
def yX3_strongOf : MethodName := ⟨RX3, "strongOf", "(I)I"⟩
abbrev cX3_grow : ByteArray := prog_5_method_10_code
def yX3_grow : MethodName := ⟨RX3, "grow", "(I)V"⟩
abbrev cX3_mostAlike : ByteArray := prog_5_method_11_code
def yX3_mostAlike : MethodName := ⟨RX3, "mostAlike", "()I"⟩
def RX4 : String := "TunedHouses$Past"
def TX4 : u_T := fun k => match k with
  | 0 => ("TunedHouses$Past", "rows", "[[I", true)
  | _ => ("TunedHouses$Past", "works", "I", false)
def tyX4 : Nat → FieldType := fun k => match k with
  | 0 => .array (.array .int)
  | _ => .int
abbrev wsX40 : List Cond := u_ws RX4 TX4 2
theorem nmX4 : ∀ a, a < 2 → ∀ b, b < 2 → a ≠ b → (TX4 a).2.1 ≠ (TX4 b).2.1 := by decide +kernel
theorem tyX4_ok : ∀ k, k < 2 → parseFieldDescriptor (TX4 k).2.2.1 = some (tyX4 k) := by decide +kernel
abbrev cX4_init : ByteArray := prog_6_method_1_code
def yX4_init : MethodName := ⟨RX4, "<init>", "()V"⟩
abbrev cX4_keep : ByteArray := prog_6_method_2_code
def yX4_keep : MethodName := ⟨RX4, "keep", "([I)V"⟩
abbrev cX4_giveBack : ByteArray := prog_6_method_3_code
def yX4_giveBack : MethodName := ⟨RX4, "giveBack", "([I)Z"⟩
abbrev cX4_copyFrom : ByteArray := prog_6_method_4_code
def yX4_copyFrom : MethodName := ⟨RX4, "copyFrom", "(LTunedHouses$Past;)V"⟩
def RX5 : String := "TunedHouses$Places"
def TX5 : u_T := fun k => match k with
  | 0 => ("TunedHouses$Places", "terrace", "LTunedHouses$Terrace;", true)
  | 1 => ("TunedHouses$Places", "chosen", "[I", true)
  | 2 => ("TunedHouses$Places", "best", "[I", true)
  | 3 => ("TunedHouses$Places", "wishes", "I", false)
  | _ => ("TunedHouses$Places", "known", "Z", false)
def tyX5 : Nat → FieldType := fun k => match k with
  | 0 => .object "TunedHouses$Terrace"
  | 1 => .array .int
  | 2 => .array .int
  | 3 => .int
  | _ => .boolean
abbrev wsX50 : List Cond := u_ws RX5 TX5 5
theorem nmX5 : ∀ a, a < 5 → ∀ b, b < 5 → a ≠ b → (TX5 a).2.1 ≠ (TX5 b).2.1 := by decide +kernel
theorem tyX5_ok : ∀ k, k < 5 → parseFieldDescriptor (TX5 k).2.2.1 = some (tyX5 k) := by decide +kernel
abbrev cX5_init : ByteArray := prog_7_method_1_code
def yX5_init : MethodName := ⟨RX5, "<init>", "(LTunedHouses$Terrace;)V"⟩
abbrev cX5_forget : ByteArray := prog_7_method_2_code
def yX5_forget : MethodName := ⟨RX5, "forget", "()V"⟩
abbrev cX5_find : ByteArray := prog_7_method_3_code
def yX5_find : MethodName := ⟨RX5, "find", "()V"⟩
abbrev cX5_tryFrom : ByteArray := prog_7_method_4_code
def yX5_tryFrom : MethodName := ⟨RX5, "tryFrom", "(III)V"⟩
abbrev cX5_isPeaceful : ByteArray := prog_7_method_5_code
def yX5_isPeaceful : MethodName := ⟨RX5, "isPeaceful", "(II)Z"⟩
def RX6 : String := "TunedHouses$Scene"
def TX6 : u_T := fun k => match k with
  | 0 => ("TunedHouses$Scene", "terrace", "LTunedHouses$Terrace;", true)
  | 1 => ("TunedHouses$Scene", "law", "LTunedHouses$Law;", true)
  | 2 => ("TunedHouses$Scene", "cells", "[I", true)
  | 3 => ("TunedHouses$Scene", "inputs", "[I", true)
  | _ => ("TunedHouses$Scene", "forces", "[I", true)
def tyX6 : Nat → FieldType := fun k => match k with
  | 0 => .object "TunedHouses$Terrace"
  | 1 => .object "TunedHouses$Law"
  | 2 => .array .int
  | 3 => .array .int
  | _ => .array .int
abbrev wsX60 : List Cond := u_ws RX6 TX6 5
theorem nmX6 : ∀ a, a < 5 → ∀ b, b < 5 → a ≠ b → (TX6 a).2.1 ≠ (TX6 b).2.1 := by decide +kernel
theorem tyX6_ok : ∀ k, k < 5 → parseFieldDescriptor (TX6 k).2.2.1 = some (tyX6 k) := by decide +kernel
abbrev cX6_init : ByteArray := prog_8_method_1_code
def yX6_init : MethodName := ⟨RX6, "<init>", "(LTunedHouses$Terrace;LTunedHouses$Law;)V"⟩
abbrev cX6_begin : ByteArray := prog_8_method_2_code
def yX6_begin : MethodName := ⟨RX6, "begin", "()V"⟩
abbrev cX6_copyFrom : ByteArray := prog_8_method_3_code
def yX6_copyFrom : MethodName := ⟨RX6, "copyFrom", "(LTunedHouses$Scene;)V"⟩
abbrev cX6_amount : ByteArray := prog_8_method_4_code
def yX6_amount : MethodName := ⟨RX6, "amount", "(II)I"⟩
abbrev cX6_houseOf : ByteArray := prog_8_method_5_code
def yX6_houseOf : MethodName := ⟨RX6, "houseOf", "(I)I"⟩
abbrev cX6_feltIn : ByteArray := prog_8_method_6_code
def yX6_feltIn : MethodName := ⟨RX6, "feltIn", "(I)I"⟩
abbrev cX6_daysOf : ByteArray := prog_8_method_7_code
def yX6_daysOf : MethodName := ⟨RX6, "daysOf", "(I)I"⟩
abbrev cX6_pianoIn : ByteArray := prog_8_method_8_code
def yX6_pianoIn : MethodName := ⟨RX6, "pianoIn", "(I)I"⟩
abbrev cX6_standing : ByteArray := prog_8_method_9_code
def yX6_standing : MethodName := ⟨RX6, "standing", "()I"⟩
abbrev cX6_occupied : ByteArray := prog_8_method_10_code
def yX6_occupied : MethodName := ⟨RX6, "occupied", "()I"⟩
abbrev cX6_put : ByteArray := prog_8_method_11_code
def yX6_put : MethodName := ⟨RX6, "put", "(II)Z"⟩
abbrev cX6_takeOut : ByteArray := prog_8_method_12_code
def yX6_takeOut : MethodName := ⟨RX6, "takeOut", "(I)Z"⟩
abbrev cX6_lay : ByteArray := prog_8_method_13_code
def yX6_lay : MethodName := ⟨RX6, "lay", "(II)Z"⟩
abbrev cX6_passDay : ByteArray := prog_8_method_14_code
def yX6_passDay : MethodName := ⟨RX6, "passDay", "()V"⟩
abbrev cX6_fights : ByteArray := prog_8_method_15_code
def yX6_fights : MethodName := ⟨RX6, "fights", "(I)I"⟩
abbrev cX6_fightsAt : ByteArray := prog_8_method_16_code
def yX6_fightsAt : MethodName := ⟨RX6, "fightsAt", "(II)I"⟩
abbrev cX6_fighters : ByteArray := prog_8_method_17_code
def yX6_fighters : MethodName := ⟨RX6, "fighters", "()I"⟩
abbrev cX6_force : ByteArray := prog_8_method_18_code
def yX6_force : MethodName := ⟨RX6, "force", "(I)I"⟩
abbrev cX6_brings : ByteArray := prog_8_method_19_code
def yX6_brings : MethodName := ⟨RX6, "brings", "(I)I"⟩
abbrev cX6_measure : ByteArray := prog_8_method_20_code
def yX6_measure : MethodName := ⟨RX6, "measure", "()V"⟩
abbrev cX6_netForce : ByteArray := prog_8_method_21_code
def yX6_netForce : MethodName := ⟨RX6, "netForce", "(I)I"⟩
abbrev cX6_thingIn : ByteArray := prog_8_method_22_code
def yX6_thingIn : MethodName := ⟨RX6, "thingIn", "(I)I"⟩
abbrev cX6_mostBut : ByteArray := prog_8_method_23_code
def yX6_mostBut : MethodName := ⟨RX6, "mostBut", "(II)I"⟩
abbrev cX6_lead : ByteArray := prog_8_method_24_code
def yX6_lead : MethodName := ⟨RX6, "lead", "(I)I"⟩
abbrev cX6_kindsIn : ByteArray := prog_8_method_25_code
def yX6_kindsIn : MethodName := ⟨RX6, "kindsIn", "(I)I"⟩
abbrev cX6_total : ByteArray := prog_8_method_26_code
def yX6_total : MethodName := ⟨RX6, "total", "()I"⟩
abbrev cX6_content : ByteArray := prog_8_method_27_code
def yX6_content : MethodName := ⟨RX6, "content", "()I"⟩
abbrev cX6_otherThanTold : ByteArray := prog_8_method_28_code
def yX6_otherThanTold : MethodName := ⟨RX6, "otherThanTold", "()I"⟩
def RX7 : String := "TunedHouses$Tape"
def TX7 : u_T := fun k => match k with
  | 0 => ("TunedHouses$Tape", "bytes", "[I", true)
  | 1 => ("TunedHouses$Tape", "size", "I", false)
  | 2 => ("TunedHouses$Tape", "end", "I", false)
  | 3 => ("TunedHouses$Tape", "at", "I", false)
  | 4 => ("TunedHouses$Tape", "tokenAt", "I", false)
  | 5 => ("TunedHouses$Tape", "value", "I", false)
  | 6 => ("TunedHouses$Tape", "faultKind", "I", false)
  | _ => ("TunedHouses$Tape", "faultAt", "I", false)
def tyX7 : Nat → FieldType := fun k => match k with
  | 0 => .array .int
  | 1 => .int
  | 2 => .int
  | 3 => .int
  | 4 => .int
  | 5 => .int
  | 6 => .int
  | _ => .int
abbrev wsX70 : List Cond := u_ws RX7 TX7 8
theorem nmX7 : ∀ a, a < 8 → ∀ b, b < 8 → a ≠ b → (TX7 a).2.1 ≠ (TX7 b).2.1 := by decide +kernel
theorem tyX7_ok : ∀ k, k < 8 → parseFieldDescriptor (TX7 k).2.2.1 = some (tyX7 k) := by decide +kernel
abbrev cX7_init : ByteArray := prog_9_method_1_code
def yX7_init : MethodName := ⟨RX7, "<init>", "()V"⟩
abbrev cX7_hasRoom : ByteArray := prog_9_method_2_code
def yX7_hasRoom : MethodName := ⟨RX7, "hasRoom", "()Z"⟩
abbrev cX7_add : ByteArray := prog_9_method_3_code
def yX7_add : MethodName := ⟨RX7, "add", "(I)V"⟩
abbrev cX7_open : ByteArray := prog_9_method_4_code
def yX7_open : MethodName := ⟨RX7, "open", "(I)V"⟩
abbrev cX7_peek : ByteArray := prog_9_method_5_code
def yX7_peek : MethodName := ⟨RX7, "peek", "()I"⟩
abbrev cX7_ended : ByteArray := prog_9_method_6_code
def yX7_ended : MethodName := ⟨RX7, "ended", "()Z"⟩
abbrev cX7_sees : ByteArray := prog_9_method_7_code
def yX7_sees : MethodName := ⟨RX7, "sees", "(C)Z"⟩
abbrev cX7_takes : ByteArray := prog_9_method_8_code
def yX7_takes : MethodName := ⟨RX7, "takes", "(C)Z"⟩
abbrev cX7_takesNumber : ByteArray := prog_9_method_9_code
def yX7_takesNumber : MethodName := ⟨RX7, "takesNumber", "(II)Z"⟩
abbrev cX7_takesWord : ByteArray := prog_9_method_10_code
def yX7_takesWord : MethodName := ⟨RX7, "takesWord", "()Z"⟩
abbrev cX7_isWord : ByteArray := prog_9_method_11_code
def yX7_isWord : MethodName := ⟨RX7, "isWord", "(Ljava/lang/String;)Z"⟩
abbrev cX7_cannotStand : ByteArray := prog_9_method_12_code
def yX7_cannotStand : MethodName := ⟨RX7, "cannotStand", "()Z"⟩
abbrev cX7_failsToken : ByteArray := prog_9_method_13_code
def yX7_failsToken : MethodName := ⟨RX7, "failsToken", "(I)Z"⟩
abbrev cX7_fails : ByteArray := prog_9_method_14_code
def yX7_fails : MethodName := ⟨RX7, "fails", "(II)Z"⟩
def RX8 : String := "TunedHouses$Terrace"
def TX8 : u_T := fun k => match k with
  | 0 => ("TunedHouses$Terrace", "houses", "I", false)
  | 1 => ("TunedHouses$Terrace", "walls", "I", false)
  | 2 => ("TunedHouses$Terrace", "pianos", "I", false)
  | 3 => ("TunedHouses$Terrace", "sheets", "I", false)
  | 4 => ("TunedHouses$Terrace", "houseThing", "[I", true)
  | 5 => ("TunedHouses$Terrace", "wished", "[I", true)
  | 6 => ("TunedHouses$Terrace", "beside", "[I", true)
  | 7 => ("TunedHouses$Terrace", "wallA", "[I", true)
  | 8 => ("TunedHouses$Terrace", "wallB", "[I", true)
  | 9 => ("TunedHouses$Terrace", "pianoThing", "[I", true)
  | _ => ("TunedHouses$Terrace", "pianoStrong", "[I", true)
def tyX8 : Nat → FieldType := fun k => match k with
  | 0 => .int
  | 1 => .int
  | 2 => .int
  | 3 => .int
  | 4 => .array .int
  | 5 => .array .int
  | 6 => .array .int
  | 7 => .array .int
  | 8 => .array .int
  | 9 => .array .int
  | _ => .array .int
abbrev wsX80 : List Cond := u_ws RX8 TX8 11
theorem nmX8 : ∀ a, a < 11 → ∀ b, b < 11 → a ≠ b → (TX8 a).2.1 ≠ (TX8 b).2.1 := by decide +kernel
theorem tyX8_ok : ∀ k, k < 11 → parseFieldDescriptor (TX8 k).2.2.1 = some (tyX8 k) := by decide +kernel
abbrev cX8_init : ByteArray := prog_10_method_1_code
def yX8_init : MethodName := ⟨RX8, "<init>", "()V"⟩
abbrev cX8_copyFrom : ByteArray := prog_10_method_2_code
def yX8_copyFrom : MethodName := ⟨RX8, "copyFrom", "(LTunedHouses$Terrace;)V"⟩
abbrev cX8_parse : ByteArray := prog_10_method_3_code
def yX8_parse : MethodName := ⟨RX8, "parse", "(LTunedHouses$Tape;)Z"⟩
abbrev cX8_parseClause : ByteArray := prog_10_method_4_code
def yX8_parseClause : MethodName := ⟨RX8, "parseClause", "(LTunedHouses$Tape;Z)Z"⟩
abbrev cX8_clauseKind : ByteArray := prog_10_method_5_code
def yX8_clauseKind : MethodName := ⟨RX8, "clauseKind", "(LTunedHouses$Tape;)I"⟩
abbrev cX8_isFull : ByteArray := prog_10_method_6_code
def yX8_isFull : MethodName := ⟨RX8, "isFull", "(I)Z"⟩
abbrev cX8_parseHouse : ByteArray := prog_10_method_7_code
def yX8_parseHouse : MethodName := ⟨RX8, "parseHouse", "(LTunedHouses$Tape;)Z"⟩
abbrev cX8_parseWall : ByteArray := prog_10_method_8_code
def yX8_parseWall : MethodName := ⟨RX8, "parseWall", "(LTunedHouses$Tape;)Z"⟩
abbrev cX8_parsePiano : ByteArray := prog_10_method_9_code
def yX8_parsePiano : MethodName := ⟨RX8, "parsePiano", "(LTunedHouses$Tape;)Z"⟩
abbrev cX8_parseWish : ByteArray := prog_10_method_10_code
def yX8_parseWish : MethodName := ⟨RX8, "parseWish", "(LTunedHouses$Tape;)Z"⟩
abbrev cX8_parseFelt : ByteArray := prog_10_method_11_code
def yX8_parseFelt : MethodName := ⟨RX8, "parseFelt", "(LTunedHouses$Tape;)Z"⟩
abbrev cX8_hasWall : ByteArray := prog_10_method_12_code
def yX8_hasWall : MethodName := ⟨RX8, "hasWall", "(II)Z"⟩
abbrev cX8_besideAny : ByteArray := prog_10_method_13_code
def yX8_besideAny : MethodName := ⟨RX8, "besideAny", "(I)I"⟩
abbrev cX8_given : ByteArray := prog_10_method_14_code
def yX8_given : MethodName := ⟨RX8, "given", "(II)I"⟩
def RX9 : String := "TunedHouses$Work"
def TX9 : u_T := fun k => match k with
  | 0 => ("TunedHouses$Work", "terrace", "LTunedHouses$Terrace;", true)
  | 1 => ("TunedHouses$Work", "kinds", "[I", true)
  | 2 => ("TunedHouses$Work", "firsts", "[I", true)
  | 3 => ("TunedHouses$Work", "seconds", "[I", true)
  | 4 => ("TunedHouses$Work", "behind", "[I", true)
  | 5 => ("TunedHouses$Work", "steps", "I", false)
  | 6 => ("TunedHouses$Work", "begun", "I", false)
  | 7 => ("TunedHouses$Work", "done", "I", false)
  | _ => ("TunedHouses$Work", "refused", "I", false)
def tyX9 : Nat → FieldType := fun k => match k with
  | 0 => .object "TunedHouses$Terrace"
  | 1 => .array .int
  | 2 => .array .int
  | 3 => .array .int
  | 4 => .array .int
  | 5 => .int
  | 6 => .int
  | 7 => .int
  | _ => .int
abbrev wsX90 : List Cond := u_ws RX9 TX9 9
theorem nmX9 : ∀ a, a < 9 → ∀ b, b < 9 → a ≠ b → (TX9 a).2.1 ≠ (TX9 b).2.1 := by decide +kernel
theorem tyX9_ok : ∀ k, k < 9 → parseFieldDescriptor (TX9 k).2.2.1 = some (tyX9 k) := by decide +kernel
abbrev cX9_init : ByteArray := prog_11_method_1_code
def yX9_init : MethodName := ⟨RX9, "<init>", "(LTunedHouses$Terrace;)V"⟩
abbrev cX9_parse : ByteArray := prog_11_method_2_code
def yX9_parse : MethodName := ⟨RX9, "parse", "(LTunedHouses$Tape;)Z"⟩
abbrev cX9_parseSteps : ByteArray := prog_11_method_3_code
def yX9_parseSteps : MethodName := ⟨RX9, "parseSteps", "(LTunedHouses$Tape;I)Z"⟩
abbrev cX9_parseStep : ByteArray := prog_11_method_4_code
def yX9_parseStep : MethodName := ⟨RX9, "parseStep", "(LTunedHouses$Tape;I)Z"⟩
abbrev cX9_takesPiano : ByteArray := prog_11_method_5_code
def yX9_takesPiano : MethodName := ⟨RX9, "takesPiano", "(LTunedHouses$Tape;)Z"⟩
abbrev cX9_parseSecond : ByteArray := prog_11_method_6_code
def yX9_parseSecond : MethodName := ⟨RX9, "parseSecond", "(LTunedHouses$Tape;II)Z"⟩
abbrev cX9_parseAgain : ByteArray := prog_11_method_7_code
def yX9_parseAgain : MethodName := ⟨RX9, "parseAgain", "(LTunedHouses$Tape;I)Z"⟩
abbrev cX9_addStep : ByteArray := prog_11_method_8_code
def yX9_addStep : MethodName := ⟨RX9, "addStep", "(III)Z"⟩
abbrev cX9_doSteps : ByteArray := prog_11_method_9_code
def yX9_doSteps : MethodName := ⟨RX9, "doSteps", "(LTunedHouses$Scene;III)V"⟩
abbrev cX9_doStep : ByteArray := prog_11_method_10_code
def yX9_doStep : MethodName := ⟨RX9, "doStep", "(LTunedHouses$Scene;I)Z"⟩
def RX10 : String := "TunedHouses$Year"
def TX10 : u_T := fun k => match k with
  | 0 => ("TunedHouses$Year", "scene", "LTunedHouses$Scene;", true)
  | 1 => ("TunedHouses$Year", "seed", "I", false)
  | _ => ("TunedHouses$Year", "puts", "I", false)
def tyX10 : Nat → FieldType := fun k => match k with
  | 0 => .object "TunedHouses$Scene"
  | 1 => .int
  | _ => .int
abbrev wsX100 : List Cond := u_ws RX10 TX10 3
theorem nmX10 : ∀ a, a < 3 → ∀ b, b < 3 → a ≠ b → (TX10 a).2.1 ≠ (TX10 b).2.1 := by decide +kernel
theorem tyX10_ok : ∀ k, k < 3 → parseFieldDescriptor (TX10 k).2.2.1 = some (tyX10 k) := by decide +kernel
abbrev cX10_init : ByteArray := prog_12_method_1_code
def yX10_init : MethodName := ⟨RX10, "<init>", "(LTunedHouses$Scene;)V"⟩
abbrev cX10_play : ByteArray := prog_12_method_2_code
def yX10_play : MethodName := ⟨RX10, "play", "(LTunedHouses$Scene;III)V"⟩
abbrev cX10_putAny : ByteArray := prog_12_method_3_code
def yX10_putAny : MethodName := ⟨RX10, "putAny", "()V"⟩
abbrev cX10_draw : ByteArray := prog_12_method_4_code
def yX10_draw : MethodName := ⟨RX10, "draw", "(I)I"⟩
def RX11 : String := "TunedHouses"
def TX11 : u_T := fun k => match k with
  | 0 => ("TunedHouses", "tape", "LTunedHouses$Tape;", true)
  | 1 => ("TunedHouses", "terrace", "LTunedHouses$Terrace;", true)
  | 2 => ("TunedHouses", "draftTerrace", "LTunedHouses$Terrace;", true)
  | 3 => ("TunedHouses", "law", "LTunedHouses$Law;", true)
  | 4 => ("TunedHouses", "draftLaw", "LTunedHouses$Law;", true)
  | 5 => ("TunedHouses", "book", "LTunedHouses$Book;", true)
  | 6 => ("TunedHouses", "draftBook", "LTunedHouses$Book;", true)
  | 7 => ("TunedHouses", "work", "LTunedHouses$Work;", true)
  | 8 => ("TunedHouses", "now", "LTunedHouses$Scene;", true)
  | 9 => ("TunedHouses", "trial", "LTunedHouses$Scene;", true)
  | 10 => ("TunedHouses", "past", "LTunedHouses$Past;", true)
  | 11 => ("TunedHouses", "images", "[LTunedHouses$Image;", true)
  | 12 => ("TunedHouses", "imageCount", "I", false)
  | 13 => ("TunedHouses", "places", "LTunedHouses$Places;", true)
  | 14 => ("TunedHouses", "pairs", "LTunedHouses$Pairs;", true)
  | 15 => ("TunedHouses", "year", "LTunedHouses$Year;", true)
  | 16 => ("TunedHouses", "inputs", "[I", true)
  | 17 => ("TunedHouses", "stepsRefused", "I", false)
  | 18 => ("TunedHouses", "noSuchCalls", "I", false)
  | _ => ("TunedHouses", "illegalCalls", "I", false)
def tyX11 : Nat → FieldType := fun k => match k with
  | 0 => .object "TunedHouses$Tape"
  | 1 => .object "TunedHouses$Terrace"
  | 2 => .object "TunedHouses$Terrace"
  | 3 => .object "TunedHouses$Law"
  | 4 => .object "TunedHouses$Law"
  | 5 => .object "TunedHouses$Book"
  | 6 => .object "TunedHouses$Book"
  | 7 => .object "TunedHouses$Work"
  | 8 => .object "TunedHouses$Scene"
  | 9 => .object "TunedHouses$Scene"
  | 10 => .object "TunedHouses$Past"
  | 11 => .array (.object "TunedHouses$Image")
  | 12 => .int
  | 13 => .object "TunedHouses$Places"
  | 14 => .object "TunedHouses$Pairs"
  | 15 => .object "TunedHouses$Year"
  | 16 => .array .int
  | 17 => .int
  | 18 => .int
  | _ => .int
abbrev wsX110 : List Cond := u_ws RX11 TX11 20
theorem nmX11 : ∀ a, a < 20 → ∀ b, b < 20 → a ≠ b → (TX11 a).2.1 ≠ (TX11 b).2.1 := by decide +kernel
theorem tyX11_ok : ∀ k, k < 20 → parseFieldDescriptor (TX11 k).2.2.1 = some (tyX11 k) := by decide +kernel
abbrev cX11_init : ByteArray := prog_1_method_1_code
def yX11_init : MethodName := ⟨RX11, "<init>", "()V"⟩
abbrev cX11_feed : ByteArray := prog_1_method_2_code
def yX11_feed : MethodName := ⟨RX11, "feed", "(IIIII)I"⟩
abbrev cX11_terrace : ByteArray := prog_1_method_3_code
def yX11_terrace : MethodName := ⟨RX11, "terrace", "(I)I"⟩
abbrev cX11_law : ByteArray := prog_1_method_4_code
def yX11_law : MethodName := ⟨RX11, "law", "(I)I"⟩
abbrev cX11_work : ByteArray := prog_1_method_5_code
def yX11_work : MethodName := ⟨RX11, "work", "(I)I"⟩
abbrev cX11_book : ByteArray := prog_1_method_6_code
def yX11_book : MethodName := ⟨RX11, "book", "(I)I"⟩
abbrev cX11_fault : ByteArray := prog_1_method_7_code
def yX11_fault : MethodName := ⟨RX11, "fault", "()I"⟩
abbrev cX11_undo : ByteArray := prog_1_method_8_code
def yX11_undo : MethodName := ⟨RX11, "undo", "()I"⟩
abbrev cX11_openText : ByteArray := prog_1_method_9_code
def yX11_openText : MethodName := ⟨RX11, "openText", "(II)V"⟩
abbrev cX11_told : ByteArray := prog_1_method_10_code
def yX11_told : MethodName := ⟨RX11, "told", "(I)I"⟩
abbrev cX11_house : ByteArray := prog_1_method_11_code
def yX11_house : MethodName := ⟨RX11, "house", "(II)I"⟩
abbrev cX11_there : ByteArray := prog_1_method_12_code
def yX11_there : MethodName := ⟨RX11, "there", "(II)I"⟩
abbrev cX11_wall : ByteArray := prog_1_method_13_code
def yX11_wall : MethodName := ⟨RX11, "wall", "(II)I"⟩
abbrev cX11_piano : ByteArray := prog_1_method_14_code
def yX11_piano : MethodName := ⟨RX11, "piano", "(II)I"⟩
abbrev cX11_would : ByteArray := prog_1_method_15_code
def yX11_would : MethodName := ⟨RX11, "would", "(IIIIIIII)I"⟩
abbrev cX11_those : ByteArray := prog_1_method_16_code
def yX11_those : MethodName := ⟨RX11, "those", "(I)I"⟩
abbrev cX11_loudest : ByteArray := prog_1_method_17_code
def yX11_loudest : MethodName := ⟨RX11, "loudest", "(I)I"⟩
abbrev cX11_quiet : ByteArray := prog_1_method_18_code
def yX11_quiet : MethodName := ⟨RX11, "quiet", "(I)I"⟩
abbrev cX11_changed : ByteArray := prog_1_method_19_code
def yX11_changed : MethodName := ⟨RX11, "changed", "()I"⟩
abbrev cX11_oldest : ByteArray := prog_1_method_20_code
def yX11_oldest : MethodName := ⟨RX11, "oldest", "(I)I"⟩
abbrev cX11_empty : ByteArray := prog_1_method_21_code
def yX11_empty : MethodName := ⟨RX11, "empty", "()I"⟩
abbrev cX11_margin : ByteArray := prog_1_method_22_code
def yX11_margin : MethodName := ⟨RX11, "margin", "(I)I"⟩
abbrev cX11_ahead : ByteArray := prog_1_method_23_code
def yX11_ahead : MethodName := ⟨RX11, "ahead", "(III)I"⟩
abbrev cX11_when : ByteArray := prog_1_method_24_code
def yX11_when : MethodName := ⟨RX11, "when", "(II)I"⟩
abbrev cX11_muffle : ByteArray := prog_1_method_25_code
def yX11_muffle : MethodName := ⟨RX11, "muffle", "(I)I"⟩
abbrev cX11_tunes : ByteArray := prog_1_method_26_code
def yX11_tunes : MethodName := ⟨RX11, "tunes", "(II)I"⟩
abbrev cX11_places : ByteArray := prog_1_method_27_code
def yX11_places : MethodName := ⟨RX11, "places", "()I"⟩
abbrev cX11_placed : ByteArray := prog_1_method_28_code
def yX11_placed : MethodName := ⟨RX11, "placed", "(I)I"⟩
abbrev cX11_from : ByteArray := prog_1_method_29_code
def yX11_from : MethodName := ⟨RX11, "from", "(II)I"⟩
abbrev cX11_look : ByteArray := prog_1_method_30_code
def yX11_look : MethodName := ⟨RX11, "look", "(II)I"⟩
abbrev cX11_year : ByteArray := prog_1_method_31_code
def yX11_year : MethodName := ⟨RX11, "year", "(IIII)I"⟩
abbrev cX11_span : ByteArray := prog_1_method_32_code
def yX11_span : MethodName := ⟨RX11, "span", "(IIIIII)I"⟩
abbrev cX11_needYear : ByteArray := prog_1_method_33_code
def yX11_needYear : MethodName := ⟨RX11, "needYear", "(II)V"⟩
abbrev cX11_way : ByteArray := prog_1_method_34_code
def yX11_way : MethodName := ⟨RX11, "way", "(II)I"⟩
abbrev cX11_alone : ByteArray := prog_1_method_35_code
def yX11_alone : MethodName := ⟨RX11, "alone", "()I"⟩
abbrev cX11_price : ByteArray := prog_1_method_36_code
def yX11_price : MethodName := ⟨RX11, "price", "(III)J"⟩
abbrev cX11_commonDivisor : ByteArray := prog_1_method_37_code
def yX11_commonDivisor : MethodName := ⟨RX11, "commonDivisor", "(JJ)J"⟩
abbrev cX11_tuner : ByteArray := prog_1_method_38_code
def yX11_tuner : MethodName := ⟨RX11, "tuner", "(III)I"⟩
abbrev cX11_isRest : ByteArray := prog_1_method_39_code
def yX11_isRest : MethodName := ⟨RX11, "isRest", "(IIII)Z"⟩
abbrev cX11_tunerHas : ByteArray := prog_1_method_40_code
def yX11_tunerHas : MethodName := ⟨RX11, "tunerHas", "(III)I"⟩
abbrev cX11_houseHas : ByteArray := prog_1_method_41_code
def yX11_houseHas : MethodName := ⟨RX11, "houseHas", "(IIII)I"⟩
abbrev cX11_share : ByteArray := prog_1_method_42_code
def yX11_share : MethodName := ⟨RX11, "share", "(III)I"⟩
abbrev cX11_image : ByteArray := prog_1_method_43_code
def yX11_image : MethodName := ⟨RX11, "image", "()I"⟩
abbrev cX11_restore : ByteArray := prog_1_method_44_code
def yX11_restore : MethodName := ⟨RX11, "restore", "()I"⟩
abbrev cX11_status : ByteArray := prog_1_method_45_code
def yX11_status : MethodName := ⟨RX11, "status", "(I)I"⟩
abbrev cX11_count : ByteArray := prog_1_method_46_code
def yX11_count : MethodName := ⟨RX11, "count", "(I)I"⟩
abbrev cX11_needHouse : ByteArray := prog_1_method_47_code
def yX11_needHouse : MethodName := ⟨RX11, "needHouse", "(I)V"⟩
abbrev cX11_needPiano : ByteArray := prog_1_method_48_code
def yX11_needPiano : MethodName := ⟨RX11, "needPiano", "(I)V"⟩
abbrev cX11_needMember : ByteArray := prog_1_method_49_code
def yX11_needMember : MethodName := ⟨RX11, "needMember", "(II)V"⟩
abbrev cX11_needThing : ByteArray := prog_1_method_50_code
def yX11_needThing : MethodName := ⟨RX11, "needThing", "(I)V"⟩
abbrev cX11_needRange : ByteArray := prog_1_method_51_code
def yX11_needRange : MethodName := ⟨RX11, "needRange", "(III)V"⟩
def RX12 : String := "TunedHousesModel"
def TX12 : u_T := fun k => match k with
  | 0 => ("TunedHousesModel", "thrown", "I", false)
  | 1 => ("TunedHousesModel", "tape", "I", false)
  | 2 => ("TunedHousesModel", "size", "I", false)
  | 3 => ("TunedHousesModel", "place", "I", false)
  | 4 => ("TunedHousesModel", "at", "I", false)
  | 5 => ("TunedHousesModel", "fault", "I", false)
  | 6 => ("TunedHousesModel", "faultAt", "I", false)
  | 7 => ("TunedHousesModel", "clauses", "I", false)
  | 8 => ("TunedHousesModel", "open", "I", false)
  | 9 => ("TunedHousesModel", "fed", "[I", true)
  | 10 => ("TunedHousesModel", "refused", "[I", true)
  | 11 => ("TunedHousesModel", "readTold", "[I", true)
  | 12 => ("TunedHousesModel", "told", "[I", true)
  | 13 => ("TunedHousesModel", "readThing", "[I", true)
  | 14 => ("TunedHousesModel", "thing", "[I", true)
  | 15 => ("TunedHousesModel", "readWish", "[I", true)
  | 16 => ("TunedHousesModel", "wish", "[I", true)
  | 17 => ("TunedHousesModel", "readWall", "[[I", true)
  | 18 => ("TunedHousesModel", "wall", "[[I", true)
  | 19 => ("TunedHousesModel", "readPiano", "[[I", true)
  | 20 => ("TunedHousesModel", "piano", "[[I", true)
  | 21 => ("TunedHousesModel", "lawMany", "I", false)
  | 22 => ("TunedHousesModel", "readLawMany", "I", false)
  | 23 => ("TunedHousesModel", "law", "[[I", true)
  | 24 => ("TunedHousesModel", "readLaw", "[[I", true)
  | 25 => ("TunedHousesModel", "line", "[[I", true)
  | 26 => ("TunedHousesModel", "readLine", "[[I", true)
  | 27 => ("TunedHousesModel", "stack", "[I", true)
  | 28 => ("TunedHousesModel", "known", "[I", true)
  | 29 => ("TunedHousesModel", "step", "[[I", true)
  | 30 => ("TunedHousesModel", "steps", "I", false)
  | 31 => ("TunedHousesModel", "now", "[I", true)
  | 32 => ("TunedHousesModel", "trial", "[I", true)
  | 33 => ("TunedHousesModel", "brought", "[I", true)
  | 34 => ("TunedHousesModel", "before", "[[I", true)
  | 35 => ("TunedHousesModel", "kept", "[[I", true)
  | 36 => ("TunedHousesModel", "lines", "I", false)
  | 37 => ("TunedHousesModel", "works", "I", false)
  | 38 => ("TunedHousesModel", "refusedSteps", "I", false)
  | 39 => ("TunedHousesModel", "images", "I", false)
  | 40 => ("TunedHousesModel", "spot", "I", false)
  | 41 => ("TunedHousesModel", "begun", "I", false)
  | 42 => ("TunedHousesModel", "doneSteps", "I", false)
  | 43 => ("TunedHousesModel", "bestAt", "[I", true)
  | 44 => ("TunedHousesModel", "mostWishes", "I", false)
  | 45 => ("TunedHousesModel", "heard", "[I", true)
  | 46 => ("TunedHousesModel", "seen", "[[I", true)
  | 47 => ("TunedHousesModel", "far", "[I", true)
  | 48 => ("TunedHousesModel", "lots", "I", false)
  | _ => ("TunedHousesModel", "putsIn", "I", false)
def tyX12 : Nat → FieldType := fun k => match k with
  | 0 => .int
  | 1 => .int
  | 2 => .int
  | 3 => .int
  | 4 => .int
  | 5 => .int
  | 6 => .int
  | 7 => .int
  | 8 => .int
  | 9 => .array .int
  | 10 => .array .int
  | 11 => .array .int
  | 12 => .array .int
  | 13 => .array .int
  | 14 => .array .int
  | 15 => .array .int
  | 16 => .array .int
  | 17 => .array (.array .int)
  | 18 => .array (.array .int)
  | 19 => .array (.array .int)
  | 20 => .array (.array .int)
  | 21 => .int
  | 22 => .int
  | 23 => .array (.array .int)
  | 24 => .array (.array .int)
  | 25 => .array (.array .int)
  | 26 => .array (.array .int)
  | 27 => .array .int
  | 28 => .array .int
  | 29 => .array (.array .int)
  | 30 => .int
  | 31 => .array .int
  | 32 => .array .int
  | 33 => .array .int
  | 34 => .array (.array .int)
  | 35 => .array (.array .int)
  | 36 => .int
  | 37 => .int
  | 38 => .int
  | 39 => .int
  | 40 => .int
  | 41 => .int
  | 42 => .int
  | 43 => .array .int
  | 44 => .int
  | 45 => .array .int
  | 46 => .array (.array .int)
  | 47 => .array .int
  | 48 => .int
  | _ => .int
abbrev wsX120 : List Cond := u_ws RX12 TX12 50
theorem nmX12 : ∀ a, a < 50 → ∀ b, b < 50 → a ≠ b → (TX12 a).2.1 ≠ (TX12 b).2.1 := by decide +kernel
theorem tyX12_ok : ∀ k, k < 50 → parseFieldDescriptor (TX12 k).2.2.1 = some (tyX12 k) := by decide +kernel
abbrev cX12_init : ByteArray := prog_14_method_1_code
def yX12_init : MethodName := ⟨RX12, "<init>", "()V"⟩
abbrev cX12_tellsNothing : ByteArray := prog_14_method_2_code
def yX12_tellsNothing : MethodName := ⟨RX12, "tellsNothing", "()V"⟩
abbrev cX12_thrown : ByteArray := prog_14_method_3_code
def yX12_thrown : MethodName := ⟨RX12, "thrown", "()I"⟩
abbrev cX12_bad : ByteArray := prog_14_method_4_code
def yX12_bad : MethodName := ⟨RX12, "bad", "(ZII)Z"⟩
abbrev cX12_in : ByteArray := prog_14_method_5_code
def yX12_in : MethodName := ⟨RX12, "in", "(III)Z"⟩
abbrev cX12_less : ByteArray := prog_14_method_6_code
def yX12_less : MethodName := ⟨RX12, "less", "(II)I"⟩
abbrev cX12_more : ByteArray := prog_14_method_7_code
def yX12_more : MethodName := ⟨RX12, "more", "(II)I"⟩
abbrev cX12_has : ByteArray := prog_14_method_8_code
def yX12_has : MethodName := ⟨RX12, "has", "(II)Z"⟩
abbrev cX12_feed : ByteArray := prog_14_method_9_code
def yX12_feed : MethodName := ⟨RX12, "feed", "(IIIII)I"⟩
abbrev cX12_byteAt : ByteArray := prog_14_method_10_code
def yX12_byteAt : MethodName := ⟨RX12, "byteAt", "(I)I"⟩
abbrev cX12_blanks : ByteArray := prog_14_method_11_code
def yX12_blanks : MethodName := ⟨RX12, "blanks", "()V"⟩
abbrev cX12_wrong : ByteArray := prog_14_method_12_code
def yX12_wrong : MethodName := ⟨RX12, "wrong", "(II)V"⟩
abbrev cX12_isDigit : ByteArray := prog_14_method_13_code
def yX12_isDigit : MethodName := ⟨RX12, "isDigit", "(I)Z"⟩
abbrev cX12_isSmall : ByteArray := prog_14_method_14_code
def yX12_isSmall : MethodName := ⟨RX12, "isSmall", "(I)Z"⟩
abbrev cX12_number : ByteArray := prog_14_method_15_code
def yX12_number : MethodName := ⟨RX12, "number", "(II)I"⟩
abbrev cX12_wordHere : ByteArray := prog_14_method_16_code
def yX12_wordHere : MethodName := ⟨RX12, "wordHere", "()I"⟩
abbrev cX12_six : ByteArray := prog_14_method_17_code
def yX12_six : MethodName := ⟨RX12, "six", "(IIIIII)I"⟩
abbrev cX12_isWord : ByteArray := prog_14_method_18_code
def yX12_isWord : MethodName := ⟨RX12, "isWord", "(IIIIII)Z"⟩
abbrev cX12_skipWord : ByteArray := prog_14_method_19_code
def yX12_skipWord : MethodName := ⟨RX12, "skipWord", "()V"⟩
abbrev cX12_takes : ByteArray := prog_14_method_20_code
def yX12_takes : MethodName := ⟨RX12, "takes", "(IIIIII)Z"⟩
abbrev cX12_sign : ByteArray := prog_14_method_21_code
def yX12_sign : MethodName := ⟨RX12, "sign", "(I)V"⟩
abbrev cX12_takesSign : ByteArray := prog_14_method_22_code
def yX12_takesSign : MethodName := ⟨RX12, "takesSign", "(I)Z"⟩
abbrev cX12_starts : ByteArray := prog_14_method_23_code
def yX12_starts : MethodName := ⟨RX12, "starts", "(I)V"⟩
abbrev cX12_ends : ByteArray := prog_14_method_24_code
def yX12_ends : MethodName := ⟨RX12, "ends", "()I"⟩
abbrev cX12_kindHere : ByteArray := prog_14_method_25_code
def yX12_kindHere : MethodName := ⟨RX12, "kindHere", "()I"⟩
abbrev cX12_mostOf : ByteArray := prog_14_method_26_code
def yX12_mostOf : MethodName := ⟨RX12, "mostOf", "(I)I"⟩
abbrev cX12_readHouse : ByteArray := prog_14_method_27_code
def yX12_readHouse : MethodName := ⟨RX12, "readHouse", "()I"⟩
abbrev cX12_isReadWall : ByteArray := prog_14_method_28_code
def yX12_isReadWall : MethodName := ⟨RX12, "isReadWall", "(II)Z"⟩
abbrev cX12_clause : ByteArray := prog_14_method_29_code
def yX12_clause : MethodName := ⟨RX12, "clause", "()V"⟩
abbrev cX12_terrace : ByteArray := prog_14_method_30_code
def yX12_terrace : MethodName := ⟨RX12, "terrace", "(I)I"⟩
abbrev cX12_lays : ByteArray := prog_14_method_31_code
def yX12_lays : MethodName := ⟨RX12, "lays", "([[I[[II)V"⟩
abbrev cX12_copies : ByteArray := prog_14_method_32_code
def yX12_copies : MethodName := ⟨RX12, "copies", "([I[I)V"⟩
abbrev cX12_beginsAnew : ByteArray := prog_14_method_33_code
def yX12_beginsAnew : MethodName := ⟨RX12, "beginsAnew", "()V"⟩
abbrev cX12_notes : ByteArray := prog_14_method_34_code
def yX12_notes : MethodName := ⟨RX12, "notes", "(II)V"⟩
abbrev cX12_opensOne : ByteArray := prog_14_method_35_code
def yX12_opensOne : MethodName := ⟨RX12, "opensOne", "()Z"⟩
abbrev cX12_sum : ByteArray := prog_14_method_36_code
def yX12_sum : MethodName := ⟨RX12, "sum", "()V"⟩
abbrev cX12_product : ByteArray := prog_14_method_37_code
def yX12_product : MethodName := ⟨RX12, "product", "()V"⟩
abbrev cX12_knownHere : ByteArray := prog_14_method_38_code
def yX12_knownHere : MethodName := ⟨RX12, "knownHere", "()I"⟩
abbrev cX12_one : ByteArray := prog_14_method_39_code
def yX12_one : MethodName := ⟨RX12, "one", "()V"⟩
abbrev cX12_law : ByteArray := prog_14_method_40_code
def yX12_law : MethodName := ⟨RX12, "law", "(I)I"⟩
abbrev cX12_by : ByteArray := prog_14_method_41_code
def yX12_by : MethodName := ⟨RX12, "by", "(III)I"⟩
abbrev cX12_byLaw : ByteArray := prog_14_method_42_code
def yX12_byLaw : MethodName := ⟨RX12, "byLaw", "()I"⟩
abbrev cX12_stepHere : ByteArray := prog_14_method_43_code
def yX12_stepHere : MethodName := ⟨RX12, "stepHere", "()I"⟩
abbrev cX12_readsStep : ByteArray := prog_14_method_44_code
def yX12_readsStep : MethodName := ⟨RX12, "readsStep", "()V"⟩
abbrev cX12_book : ByteArray := prog_14_method_45_code
def yX12_book : MethodName := ⟨RX12, "book", "(I)I"⟩
abbrev cX12_fault : ByteArray := prog_14_method_46_code
def yX12_fault : MethodName := ⟨RX12, "fault", "()I"⟩
abbrev cX12_isWall : ByteArray := prog_14_method_47_code
def yX12_isWall : MethodName := ⟨RX12, "isWall", "(II)Z"⟩
abbrev cX12_isBeside : ByteArray := prog_14_method_48_code
def yX12_isBeside : MethodName := ⟨RX12, "isBeside", "([III)Z"⟩
abbrev cX12_isFight : ByteArray := prog_14_method_49_code
def yX12_isFight : MethodName := ⟨RX12, "isFight", "([III)Z"⟩
abbrev cX12_forceBy : ByteArray := prog_14_method_50_code
def yX12_forceBy : MethodName := ⟨RX12, "forceBy", "(IIIIIIII)I"⟩
abbrev cX12_forceWith : ByteArray := prog_14_method_51_code
def yX12_forceWith : MethodName := ⟨RX12, "forceWith", "([III)I"⟩
abbrev cX12_forceOf : ByteArray := prog_14_method_52_code
def yX12_forceOf : MethodName := ⟨RX12, "forceOf", "([II)I"⟩
abbrev cX12_brings : ByteArray := prog_14_method_53_code
def yX12_brings : MethodName := ⟨RX12, "brings", "([II)I"⟩
abbrev cX12_pianoIn : ByteArray := prog_14_method_54_code
def yX12_pianoIn : MethodName := ⟨RX12, "pianoIn", "([II)I"⟩
abbrev cX12_puts2 : ByteArray := prog_14_method_55_code
def yX12_puts2 : MethodName := ⟨RX12, "puts2", "([III)Z"⟩
abbrev cX12_dayEnds : ByteArray := prog_14_method_56_code
def yX12_dayEnds : MethodName := ⟨RX12, "dayEnds", "([I)V"⟩
abbrev cX12_does : ByteArray := prog_14_method_57_code
def yX12_does : MethodName := ⟨RX12, "does", "([I[I)Z"⟩
abbrev cX12_goes : ByteArray := prog_14_method_58_code
def yX12_goes : MethodName := ⟨RX12, "goes", "(II)V"⟩
abbrev cX12_work : ByteArray := prog_14_method_59_code
def yX12_work : MethodName := ⟨RX12, "work", "(I)I"⟩
abbrev cX12_undo : ByteArray := prog_14_method_60_code
def yX12_undo : MethodName := ⟨RX12, "undo", "()I"⟩
abbrev cX12_amount : ByteArray := prog_14_method_61_code
def yX12_amount : MethodName := ⟨RX12, "amount", "([III)I"⟩
abbrev cX12_thingOf : ByteArray := prog_14_method_62_code
def yX12_thingOf : MethodName := ⟨RX12, "thingOf", "([II)I"⟩
abbrev cX12_wishedIn : ByteArray := prog_14_method_63_code
def yX12_wishedIn : MethodName := ⟨RX12, "wishedIn", "([I)I"⟩
abbrev cX12_changedIn : ByteArray := prog_14_method_64_code
def yX12_changedIn : MethodName := ⟨RX12, "changedIn", "([I)I"⟩
abbrev cX12_allIn : ByteArray := prog_14_method_65_code
def yX12_allIn : MethodName := ⟨RX12, "allIn", "([I)I"⟩
abbrev cX12_fightsOf : ByteArray := prog_14_method_66_code
def yX12_fightsOf : MethodName := ⟨RX12, "fightsOf", "([II)I"⟩
abbrev cX12_told : ByteArray := prog_14_method_67_code
def yX12_told : MethodName := ⟨RX12, "told", "(I)I"⟩
abbrev cX12_isHouse : ByteArray := prog_14_method_68_code
def yX12_isHouse : MethodName := ⟨RX12, "isHouse", "(I)Z"⟩
abbrev cX12_isPiano : ByteArray := prog_14_method_69_code
def yX12_isPiano : MethodName := ⟨RX12, "isPiano", "(I)Z"⟩
abbrev cX12_isThing : ByteArray := prog_14_method_70_code
def yX12_isThing : MethodName := ⟨RX12, "isThing", "(I)Z"⟩
abbrev cX12_house : ByteArray := prog_14_method_71_code
def yX12_house : MethodName := ⟨RX12, "house", "(II)I"⟩
abbrev cX12_there : ByteArray := prog_14_method_72_code
def yX12_there : MethodName := ⟨RX12, "there", "(II)I"⟩
abbrev cX12_wall : ByteArray := prog_14_method_73_code
def yX12_wall : MethodName := ⟨RX12, "wall", "(II)I"⟩
abbrev cX12_piano : ByteArray := prog_14_method_74_code
def yX12_piano : MethodName := ⟨RX12, "piano", "(II)I"⟩
abbrev cX12_would : ByteArray := prog_14_method_75_code
def yX12_would : MethodName := ⟨RX12, "would", "(IIIIIIII)I"⟩
abbrev cX12_ahead : ByteArray := prog_14_method_76_code
def yX12_ahead : MethodName := ⟨RX12, "ahead", "(III)I"⟩
abbrev cX12_when : ByteArray := prog_14_method_77_code
def yX12_when : MethodName := ⟨RX12, "when", "(II)I"⟩
abbrev cX12_muffle : ByteArray := prog_14_method_78_code
def yX12_muffle : MethodName := ⟨RX12, "muffle", "(I)I"⟩
abbrev cX12_putsFrom : ByteArray := prog_14_method_79_code
def yX12_putsFrom : MethodName := ⟨RX12, "putsFrom", "(II)V"⟩
abbrev cX12_placesAll : ByteArray := prog_14_method_80_code
def yX12_placesAll : MethodName := ⟨RX12, "placesAll", "()V"⟩
abbrev cX12_places : ByteArray := prog_14_method_81_code
def yX12_places : MethodName := ⟨RX12, "places", "()I"⟩
abbrev cX12_placed : ByteArray := prog_14_method_82_code
def yX12_placed : MethodName := ⟨RX12, "placed", "(I)I"⟩
abbrev cX12_laysHeard : ByteArray := prog_14_method_83_code
def yX12_laysHeard : MethodName := ⟨RX12, "laysHeard", "(III)V"⟩
abbrev cX12_isHeard : ByteArray := prog_14_method_84_code
def yX12_isHeard : MethodName := ⟨RX12, "isHeard", "()Z"⟩
abbrev cX12_from : ByteArray := prog_14_method_85_code
def yX12_from : MethodName := ⟨RX12, "from", "(II)I"⟩
abbrev cX12_isTold : ByteArray := prog_14_method_86_code
def yX12_isTold : MethodName := ⟨RX12, "isTold", "(I)Z"⟩
abbrev cX12_look : ByteArray := prog_14_method_87_code
def yX12_look : MethodName := ⟨RX12, "look", "(II)I"⟩
abbrev cX12_way : ByteArray := prog_14_method_88_code
def yX12_way : MethodName := ⟨RX12, "way", "(II)I"⟩
abbrev cX12_ones : ByteArray := prog_14_method_89_code
def yX12_ones : MethodName := ⟨RX12, "ones", "(I)I"⟩
abbrev cX12_alone : ByteArray := prog_14_method_90_code
def yX12_alone : MethodName := ⟨RX12, "alone", "()I"⟩
abbrev cX12_price : ByteArray := prog_14_method_91_code
def yX12_price : MethodName := ⟨RX12, "price", "(III)J"⟩
abbrev cX12_hisBy : ByteArray := prog_14_method_92_code
def yX12_hisBy : MethodName := ⟨RX12, "hisBy", "(III)I"⟩
abbrev cX12_itsBy : ByteArray := prog_14_method_93_code
def yX12_itsBy : MethodName := ⟨RX12, "itsBy", "(IIII)I"⟩
abbrev cX12_tuner : ByteArray := prog_14_method_94_code
def yX12_tuner : MethodName := ⟨RX12, "tuner", "(III)I"⟩
abbrev cX12_givenBy : ByteArray := prog_14_method_95_code
def yX12_givenBy : MethodName := ⟨RX12, "givenBy", "(II)I"⟩
abbrev cX12_share : ByteArray := prog_14_method_96_code
def yX12_share : MethodName := ⟨RX12, "share", "(III)I"⟩
abbrev cX12_those : ByteArray := prog_14_method_97_code
def yX12_those : MethodName := ⟨RX12, "those", "(I)I"⟩
abbrev cX12_loudest : ByteArray := prog_14_method_98_code
def yX12_loudest : MethodName := ⟨RX12, "loudest", "(I)I"⟩
abbrev cX12_quiet : ByteArray := prog_14_method_99_code
def yX12_quiet : MethodName := ⟨RX12, "quiet", "(I)I"⟩
abbrev cX12_tunes : ByteArray := prog_14_method_100_code
def yX12_tunes : MethodName := ⟨RX12, "tunes", "(II)I"⟩
abbrev cX12_oldest : ByteArray := prog_14_method_101_code
def yX12_oldest : MethodName := ⟨RX12, "oldest", "(I)I"⟩
abbrev cX12_empty : ByteArray := prog_14_method_102_code
def yX12_empty : MethodName := ⟨RX12, "empty", "()I"⟩
abbrev cX12_margin : ByteArray := prog_14_method_103_code
def yX12_margin : MethodName := ⟨RX12, "margin", "(I)I"⟩
abbrev cX12_changed : ByteArray := prog_14_method_104_code
def yX12_changed : MethodName := ⟨RX12, "changed", "()I"⟩
abbrev cX12_draw : ByteArray := prog_14_method_105_code
def yX12_draw : MethodName := ⟨RX12, "draw", "(I)I"⟩
abbrev cX12_yearBy : ByteArray := prog_14_method_106_code
def yX12_yearBy : MethodName := ⟨RX12, "yearBy", "(III)V"⟩
abbrev cX12_isYear : ByteArray := prog_14_method_107_code
def yX12_isYear : MethodName := ⟨RX12, "isYear", "(II)Z"⟩
abbrev cX12_year : ByteArray := prog_14_method_108_code
def yX12_year : MethodName := ⟨RX12, "year", "(IIII)I"⟩
abbrev cX12_span : ByteArray := prog_14_method_109_code
def yX12_span : MethodName := ⟨RX12, "span", "(IIIIII)I"⟩
abbrev cX12_puts : ByteArray := prog_14_method_110_code
def yX12_puts : MethodName := ⟨RX12, "puts", "([IIZ)I"⟩
abbrev cX12_putsAll : ByteArray := prog_14_method_111_code
def yX12_putsAll : MethodName := ⟨RX12, "putsAll", "([IZ)V"⟩
abbrev cX12_image : ByteArray := prog_14_method_112_code
def yX12_image : MethodName := ⟨RX12, "image", "()I"⟩
abbrev cX12_restore : ByteArray := prog_14_method_113_code
def yX12_restore : MethodName := ⟨RX12, "restore", "()I"⟩
abbrev cX12_status : ByteArray := prog_14_method_114_code
def yX12_status : MethodName := ⟨RX12, "status", "(I)I"⟩
abbrev cX12_count : ByteArray := prog_14_method_115_code
def yX12_count : MethodName := ⟨RX12, "count", "(I)I"⟩
def RJ6 : String := "java/lang/Integer"
abbrev cJ6_bitCount_0f7a4 : ByteArray := prog_20_method_49_code
def yJ6_bitCount_0f7a4 : MethodName := ⟨RJ6, "bitCount", "(I)I"⟩
def RJ9 : String := "java/lang/Math"
abbrev cJ9_max_7cf53 : ByteArray := prog_21_method_65_code
def yJ9_max_7cf53 : MethodName := ⟨RJ9, "max", "(II)I"⟩
abbrev cJ9_max_f86c9 : ByteArray := prog_21_method_66_code
def yJ9_max_f86c9 : MethodName := ⟨RJ9, "max", "(JJ)J"⟩
abbrev cJ9_min_7cf53 : ByteArray := prog_21_method_69_code
def yJ9_min_7cf53 : MethodName := ⟨RJ9, "min", "(II)I"⟩
def RJ0 : String := "java/lang/String"
abbrev cJ0_length_8abf5 : ByteArray := prog_23_method_54_code
def yJ0_length_8abf5 : MethodName := ⟨RJ0, "length", "()I"⟩
abbrev cJ0_charAt_5068e : ByteArray := prog_23_method_56_code
def yJ0_charAt_5068e : MethodName := ⟨RJ0, "charAt", "(I)C"⟩
abbrev cJ0_coder_7d493 : ByteArray := prog_23_method_152_code
def yJ0_coder_7d493 : MethodName := ⟨RJ0, "coder", "()B"⟩
abbrev cJ0_isLatin1_aae02 : ByteArray := prog_23_method_154_code
def yJ0_isLatin1_aae02 : MethodName := ⟨RJ0, "isLatin1", "()Z"⟩
abbrev cJ0_checkIndex_df160 : ByteArray := prog_23_method_155_code
def yJ0_checkIndex_df160 : MethodName := ⟨RJ0, "checkIndex", "(II)V"⟩
def RJ1 : String := "java/lang/StringLatin1"
abbrev cJ1_charAt_3b067 : ByteArray := prog_24_method_2_code
def yJ1_charAt_3b067 : MethodName := ⟨RJ1, "charAt", "([BI)C"⟩
def RJ2 : String := "java/lang/StringUTF16"
abbrev cJ2_getChar_3b067 : ByteArray := prog_25_method_5_code
def yJ2_getChar_3b067 : MethodName := ⟨RJ2, "getChar", "([BI)C"⟩
abbrev cJ2_length_9d52b : ByteArray := prog_25_method_6_code
def yJ2_length_9d52b : MethodName := ⟨RJ2, "length", "([B)I"⟩
abbrev cJ2_charAt_3b067 : ByteArray := prog_25_method_83_code
def yJ2_charAt_3b067 : MethodName := ⟨RJ2, "charAt", "([BI)C"⟩
abbrev cJ2_checkIndex_2214a : ByteArray := prog_25_method_91_code
def yJ2_checkIndex_2214a : MethodName := ⟨RJ2, "checkIndex", "(I[B)V"⟩
def RJ10 : String := "java/lang/System"
def RJ7 : String := "java/util/Arrays"
abbrev cJ7_fill_53178 : ByteArray := prog_30_method_103_code
def yJ7_fill_53178 : MethodName := ⟨RJ7, "fill", "([II)V"⟩
def RJ3 : String := "jdk/internal/util/Preconditions"
abbrev cJ3_checkIndex_8e157 : ByteArray := prog_32_method_11_code
def yJ3_checkIndex_8e157 : MethodName := ⟨RJ3, "checkIndex", "(IILjava/util/function/BiFunction;)I"⟩
def RL : String := "TunedHousesLaw"
abbrev cL_terrace : ByteArray := method_3_code
def yL_terrace : MethodName := ⟨RL, "terrace", "(LTunedHouses;I[J)I"⟩
abbrev cL_law : ByteArray := method_4_code
def yL_law : MethodName := ⟨RL, "law", "(LTunedHouses;I[J)I"⟩
abbrev cL_work : ByteArray := method_5_code
def yL_work : MethodName := ⟨RL, "work", "(LTunedHouses;I[J)I"⟩
abbrev cL_book : ByteArray := method_6_code
def yL_book : MethodName := ⟨RL, "book", "(LTunedHouses;I[J)I"⟩
abbrev cL_told : ByteArray := method_7_code
def yL_told : MethodName := ⟨RL, "told", "(LTunedHouses;I[J)I"⟩
abbrev cL_house : ByteArray := method_8_code
def yL_house : MethodName := ⟨RL, "house", "(LTunedHouses;II[J)I"⟩
abbrev cL_there : ByteArray := method_9_code
def yL_there : MethodName := ⟨RL, "there", "(LTunedHouses;II[J)I"⟩
abbrev cL_wall : ByteArray := method_10_code
def yL_wall : MethodName := ⟨RL, "wall", "(LTunedHouses;II[J)I"⟩
abbrev cL_piano : ByteArray := method_11_code
def yL_piano : MethodName := ⟨RL, "piano", "(LTunedHouses;II[J)I"⟩
abbrev cL_would : ByteArray := method_12_code
def yL_would : MethodName := ⟨RL, "would", "(LTunedHouses;IIIIIIII[J)I"⟩
abbrev cL_ahead : ByteArray := method_13_code
def yL_ahead : MethodName := ⟨RL, "ahead", "(LTunedHouses;III[J)I"⟩
abbrev cL_when : ByteArray := method_14_code
def yL_when : MethodName := ⟨RL, "when", "(LTunedHouses;II[J)I"⟩
abbrev cL_muffle : ByteArray := method_15_code
def yL_muffle : MethodName := ⟨RL, "muffle", "(LTunedHouses;I[J)I"⟩
abbrev cL_placed : ByteArray := method_16_code
def yL_placed : MethodName := ⟨RL, "placed", "(LTunedHouses;I[J)I"⟩
abbrev cL_from : ByteArray := method_17_code
def yL_from : MethodName := ⟨RL, "from", "(LTunedHouses;II[J)I"⟩
abbrev cL_look : ByteArray := method_18_code
def yL_look : MethodName := ⟨RL, "look", "(LTunedHouses;II[J)I"⟩
abbrev cL_way : ByteArray := method_19_code
def yL_way : MethodName := ⟨RL, "way", "(LTunedHouses;II[J)I"⟩
abbrev cL_price : ByteArray := method_20_code
def yL_price : MethodName := ⟨RL, "price", "(LTunedHouses;III[J)I"⟩
abbrev cL_tuner : ByteArray := method_21_code
def yL_tuner : MethodName := ⟨RL, "tuner", "(LTunedHouses;III[J)I"⟩
abbrev cL_share : ByteArray := method_22_code
def yL_share : MethodName := ⟨RL, "share", "(LTunedHouses;III[J)I"⟩
abbrev cL_those : ByteArray := method_23_code
def yL_those : MethodName := ⟨RL, "those", "(LTunedHouses;I[J)I"⟩
abbrev cL_loudest : ByteArray := method_24_code
def yL_loudest : MethodName := ⟨RL, "loudest", "(LTunedHouses;I[J)I"⟩
abbrev cL_quiet : ByteArray := method_25_code
def yL_quiet : MethodName := ⟨RL, "quiet", "(LTunedHouses;I[J)I"⟩
abbrev cL_oldest : ByteArray := method_26_code
def yL_oldest : MethodName := ⟨RL, "oldest", "(LTunedHouses;I[J)I"⟩
abbrev cL_margin : ByteArray := method_27_code
def yL_margin : MethodName := ⟨RL, "margin", "(LTunedHouses;I[J)I"⟩
abbrev cL_tunes : ByteArray := method_28_code
def yL_tunes : MethodName := ⟨RL, "tunes", "(LTunedHouses;II[J)I"⟩
abbrev cL_year : ByteArray := method_29_code
def yL_year : MethodName := ⟨RL, "year", "(LTunedHouses;IIII[J)I"⟩
abbrev cL_span : ByteArray := method_30_code
def yL_span : MethodName := ⟨RL, "span", "(LTunedHouses;IIIIII[J)I"⟩
abbrev cL_law_ : ByteArray := code
def yL_law_ : MethodName := ⟨RL, "law", "([I)Z"⟩
abbrev vwCl : List vw_C := [(RX0, TX0, 3), (RX1, TX1, 2), (RX2, TX2, 3), (RX3, TX3, 11), (RX4, TX4, 2), (RX5, TX5, 5), (RX6, TX6, 5), (RX7, TX7, 8), (RX8, TX8, 11), (RX9, TX9, 9), (RX10, TX10, 3), (RX11, TX11, 20), (RX12, TX12, 50)]
