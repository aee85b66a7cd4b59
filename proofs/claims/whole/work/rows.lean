section
-- ===== PART A: goes FIRST, ahead of the names: the tables' words, and 'selects' of the private methods out of them =====
/-- a private method of a class that the tables say can be made, by its rows of tables_1 -/
def lw_okq (q : MethodName × Nat) : Prop := (q.1.cls ≠ "java/lang/invoke/MethodHandle" ∧ q.1.cls ≠ "java/lang/invoke/VarHandle") ∧ Cond.instantiable q.1.cls q.2 ∈ tables_1 ∧ Cond.privateMethod q.1 ∈ tables_1 ∧ Cond.instanceMethod q.1 ∈ tables_1
theorem lw_p0 : lw_okq (⟨"OrdersMadeOne$Ways", "begin", "(LOrdersMadeOne$Program;LOrdersMadeOne$Rows;I)V"⟩, 3) := ⟨⟨by decide +kernel, by decide +kernel⟩, List.mem_of_getElem? (i := 226) (by decide +kernel), List.mem_of_getElem? (i := 424) (by decide +kernel), List.mem_of_getElem? (i := 425) (by decide +kernel)⟩
theorem lw_p1 : lw_okq (⟨"OrdersMadeOne$Packed", "beginCode", "(III)V"⟩, 9) := ⟨⟨by decide +kernel, by decide +kernel⟩, List.mem_of_getElem? (i := 50) (by decide +kernel), List.mem_of_getElem? (i := 451) (by decide +kernel), List.mem_of_getElem? (i := 452) (by decide +kernel)⟩
theorem lw_p2 : lw_okq (⟨"OrdersMadeOne$Packed", "write", "(I)V"⟩, 9) := ⟨⟨by decide +kernel, by decide +kernel⟩, List.mem_of_getElem? (i := 50) (by decide +kernel), List.mem_of_getElem? (i := 455) (by decide +kernel), List.mem_of_getElem? (i := 456) (by decide +kernel)⟩
theorem lw_p3 : lw_okq (⟨"OrdersMadeOne$Run", "clear", "()V"⟩, 9) := ⟨⟨by decide +kernel, by decide +kernel⟩, List.mem_of_getElem? (i := 128) (by decide +kernel), List.mem_of_getElem? (i := 484) (by decide +kernel), List.mem_of_getElem? (i := 485) (by decide +kernel)⟩
theorem lw_p4 : lw_okq (⟨"OrdersMadeOne$Run", "endAhead", "(LOrdersMadeOne$Program;I)I"⟩, 9) := ⟨⟨by decide +kernel, by decide +kernel⟩, List.mem_of_getElem? (i := 128) (by decide +kernel), List.mem_of_getElem? (i := 490) (by decide +kernel), List.mem_of_getElem? (i := 491) (by decide +kernel)⟩
theorem lw_p5 : lw_okq (⟨"OrdersMadeOne$Run", "tryOrder", "(LOrdersMadeOne$Program;)I"⟩, 9) := ⟨⟨by decide +kernel, by decide +kernel⟩, List.mem_of_getElem? (i := 128) (by decide +kernel), List.mem_of_getElem? (i := 499) (by decide +kernel), List.mem_of_getElem? (i := 500) (by decide +kernel)⟩
theorem lw_p6 : lw_okq (⟨"OrdersMadeOne$Run", "carryOut", "(II)V"⟩, 9) := ⟨⟨by decide +kernel, by decide +kernel⟩, List.mem_of_getElem? (i := 128) (by decide +kernel), List.mem_of_getElem? (i := 507) (by decide +kernel), List.mem_of_getElem? (i := 508) (by decide +kernel)⟩
theorem lw_p7 : lw_okq (⟨"OrdersMadeOne$Run", "lay", "(I)V"⟩, 9) := ⟨⟨by decide +kernel, by decide +kernel⟩, List.mem_of_getElem? (i := 128) (by decide +kernel), List.mem_of_getElem? (i := 511) (by decide +kernel), List.mem_of_getElem? (i := 512) (by decide +kernel)⟩
theorem lw_p8 : lw_okq (⟨"OrdersMadeOne$Run", "layOneForTwo", "(I)V"⟩, 9) := ⟨⟨by decide +kernel, by decide +kernel⟩, List.mem_of_getElem? (i := 128) (by decide +kernel), List.mem_of_getElem? (i := 515) (by decide +kernel), List.mem_of_getElem? (i := 516) (by decide +kernel)⟩
theorem lw_p9 : lw_okq (⟨"OrdersMadeOne$Run", "lift", "()I"⟩, 9) := ⟨⟨by decide +kernel, by decide +kernel⟩, List.mem_of_getElem? (i := 128) (by decide +kernel), List.mem_of_getElem? (i := 519) (by decide +kernel), List.mem_of_getElem? (i := 520) (by decide +kernel)⟩
theorem lw_p10 : lw_okq (⟨"OrdersMadeOne$Run", "turnUpperTwo", "()V"⟩, 9) := ⟨⟨by decide +kernel, by decide +kernel⟩, List.mem_of_getElem? (i := 128) (by decide +kernel), List.mem_of_getElem? (i := 523) (by decide +kernel), List.mem_of_getElem? (i := 524) (by decide +kernel)⟩
theorem lw_p11 : lw_okq (⟨"OrdersMadeOne$Chooser", "gather", "(LOrdersMadeOne$State;Z)I"⟩, 15) := ⟨⟨by decide +kernel, by decide +kernel⟩, List.mem_of_getElem? (i := 244) (by decide +kernel), List.mem_of_getElem? (i := 550) (by decide +kernel), List.mem_of_getElem? (i := 551) (by decide +kernel)⟩
theorem lw_p12 : lw_okq (⟨"OrdersMadeOne$Chooser", "gatherAt", "(LOrdersMadeOne$Program;IIZ)V"⟩, 15) := ⟨⟨by decide +kernel, by decide +kernel⟩, List.mem_of_getElem? (i := 244) (by decide +kernel), List.mem_of_getElem? (i := 555) (by decide +kernel), List.mem_of_getElem? (i := 556) (by decide +kernel)⟩
theorem lw_p13 : lw_okq (⟨"OrdersMadeOne$Chooser", "addStand", "(IIII)V"⟩, 15) := ⟨⟨by decide +kernel, by decide +kernel⟩, List.mem_of_getElem? (i := 244) (by decide +kernel), List.mem_of_getElem? (i := 561) (by decide +kernel), List.mem_of_getElem? (i := 562) (by decide +kernel)⟩
theorem lw_p14 : lw_okq (⟨"OrdersMadeOne$Chooser", "findRow", "(I)I"⟩, 15) := ⟨⟨by decide +kernel, by decide +kernel⟩, List.mem_of_getElem? (i := 244) (by decide +kernel), List.mem_of_getElem? (i := 565) (by decide +kernel), List.mem_of_getElem? (i := 566) (by decide +kernel)⟩
theorem lw_p15 : lw_okq (⟨"OrdersMadeOne$Chooser", "chooseOne", "()V"⟩, 15) := ⟨⟨by decide +kernel, by decide +kernel⟩, List.mem_of_getElem? (i := 244) (by decide +kernel), List.mem_of_getElem? (i := 570) (by decide +kernel), List.mem_of_getElem? (i := 571) (by decide +kernel)⟩
def lw_privs_1 : List (MethodName × Nat) := [(⟨"OrdersMadeOne$Ways", "begin", "(LOrdersMadeOne$Program;LOrdersMadeOne$Rows;I)V"⟩, 3), (⟨"OrdersMadeOne$Packed", "beginCode", "(III)V"⟩, 9), (⟨"OrdersMadeOne$Packed", "write", "(I)V"⟩, 9), (⟨"OrdersMadeOne$Run", "clear", "()V"⟩, 9), (⟨"OrdersMadeOne$Run", "endAhead", "(LOrdersMadeOne$Program;I)I"⟩, 9), (⟨"OrdersMadeOne$Run", "tryOrder", "(LOrdersMadeOne$Program;)I"⟩, 9), (⟨"OrdersMadeOne$Run", "carryOut", "(II)V"⟩, 9), (⟨"OrdersMadeOne$Run", "lay", "(I)V"⟩, 9), (⟨"OrdersMadeOne$Run", "layOneForTwo", "(I)V"⟩, 9), (⟨"OrdersMadeOne$Run", "lift", "()I"⟩, 9), (⟨"OrdersMadeOne$Run", "turnUpperTwo", "()V"⟩, 9), (⟨"OrdersMadeOne$Chooser", "gather", "(LOrdersMadeOne$State;Z)I"⟩, 15), (⟨"OrdersMadeOne$Chooser", "gatherAt", "(LOrdersMadeOne$Program;IIZ)V"⟩, 15), (⟨"OrdersMadeOne$Chooser", "addStand", "(IIII)V"⟩, 15), (⟨"OrdersMadeOne$Chooser", "findRow", "(I)I"⟩, 15), (⟨"OrdersMadeOne$Chooser", "chooseOne", "()V"⟩, 15)]
theorem lw_r1 : ∀ q ∈ lw_privs_1, lw_okq q := List.forall_mem_cons.mpr ⟨lw_p0, List.forall_mem_cons.mpr ⟨lw_p1, List.forall_mem_cons.mpr ⟨lw_p2, List.forall_mem_cons.mpr ⟨lw_p3, List.forall_mem_cons.mpr ⟨lw_p4, List.forall_mem_cons.mpr ⟨lw_p5, List.forall_mem_cons.mpr ⟨lw_p6, List.forall_mem_cons.mpr ⟨lw_p7, List.forall_mem_cons.mpr ⟨lw_p8, List.forall_mem_cons.mpr ⟨lw_p9, List.forall_mem_cons.mpr ⟨lw_p10, List.forall_mem_cons.mpr ⟨lw_p11, List.forall_mem_cons.mpr ⟨lw_p12, List.forall_mem_cons.mpr ⟨lw_p13, List.forall_mem_cons.mpr ⟨lw_p14, List.forall_mem_cons.mpr ⟨lw_p15, fun _ h => absurd h List.not_mem_nil⟩⟩⟩⟩⟩⟩⟩⟩⟩⟩⟩⟩⟩⟩⟩⟩
theorem lw_p16 : lw_okq (⟨"OrdersMadeOne$Chooser", "mostSaved", "(II)I"⟩, 15) := ⟨⟨by decide +kernel, by decide +kernel⟩, List.mem_of_getElem? (i := 244) (by decide +kernel), List.mem_of_getElem? (i := 574) (by decide +kernel), List.mem_of_getElem? (i := 575) (by decide +kernel)⟩
theorem lw_p17 : lw_okq (⟨"OrdersMadeOne$Chooser", "savedFrom", "(II)I"⟩, 15) := ⟨⟨by decide +kernel, by decide +kernel⟩, List.mem_of_getElem? (i := 244) (by decide +kernel), List.mem_of_getElem? (i := 578) (by decide +kernel), List.mem_of_getElem? (i := 579) (by decide +kernel)⟩
theorem lw_p18 : lw_okq (⟨"OrdersMadeOne$Chooser", "chooseTwo", "()V"⟩, 15) := ⟨⟨by decide +kernel, by decide +kernel⟩, List.mem_of_getElem? (i := 244) (by decide +kernel), List.mem_of_getElem? (i := 585) (by decide +kernel), List.mem_of_getElem? (i := 586) (by decide +kernel)⟩
theorem lw_p19 : lw_okq (⟨"OrdersMadeOne$Chooser", "tryTwo", "(II)V"⟩, 15) := ⟨⟨by decide +kernel, by decide +kernel⟩, List.mem_of_getElem? (i := 244) (by decide +kernel), List.mem_of_getElem? (i := 589) (by decide +kernel), List.mem_of_getElem? (i := 590) (by decide +kernel)⟩
theorem lw_p20 : lw_okq (⟨"OrdersMadeOne$Told", "readCode", "(LOrdersMadeOne$Program;LOrdersMadeOne$Rows;I)Z"⟩, 3) := ⟨⟨by decide +kernel, by decide +kernel⟩, List.mem_of_getElem? (i := 171) (by decide +kernel), List.mem_of_getElem? (i := 624) (by decide +kernel), List.mem_of_getElem? (i := 625) (by decide +kernel)⟩
theorem lw_p21 : lw_okq (⟨"OrdersMadeOne$Told", "readOrder", "(LOrdersMadeOne$Program;I)Z"⟩, 3) := ⟨⟨by decide +kernel, by decide +kernel⟩, List.mem_of_getElem? (i := 171) (by decide +kernel), List.mem_of_getElem? (i := 629) (by decide +kernel), List.mem_of_getElem? (i := 630) (by decide +kernel)⟩
theorem lw_p22 : lw_okq (⟨"OrdersMadeOneModel", "forget", "(I)V"⟩, 48) := ⟨⟨by decide +kernel, by decide +kernel⟩, List.mem_of_getElem? (i := 669) (by decide +kernel), List.mem_of_getElem? (i := 825) (by decide +kernel), List.mem_of_getElem? (i := 826) (by decide +kernel)⟩
theorem lw_p23 : lw_okq (⟨"OrdersMadeOneModel", "isProgram", "(I)Z"⟩, 48) := ⟨⟨by decide +kernel, by decide +kernel⟩, List.mem_of_getElem? (i := 669) (by decide +kernel), List.mem_of_getElem? (i := 833) (by decide +kernel), List.mem_of_getElem? (i := 834) (by decide +kernel)⟩
theorem lw_p24 : lw_okq (⟨"OrdersMadeOneModel", "isLed", "(II)Z"⟩, 48) := ⟨⟨by decide +kernel, by decide +kernel⟩, List.mem_of_getElem? (i := 669) (by decide +kernel), List.mem_of_getElem? (i := 854) (by decide +kernel), List.mem_of_getElem? (i := 855) (by decide +kernel)⟩
theorem lw_p25 : lw_okq (⟨"OrdersMadeOneModel", "takeJoins", "()V"⟩, 48) := ⟨⟨by decide +kernel, by decide +kernel⟩, List.mem_of_getElem? (i := 669) (by decide +kernel), List.mem_of_getElem? (i := 877) (by decide +kernel), List.mem_of_getElem? (i := 878) (by decide +kernel)⟩
theorem lw_p26 : lw_okq (⟨"OrdersMadeOneModel", "findLeast", "(II)V"⟩, 48) := ⟨⟨by decide +kernel, by decide +kernel⟩, List.mem_of_getElem? (i := 669) (by decide +kernel), List.mem_of_getElem? (i := 881) (by decide +kernel), List.mem_of_getElem? (i := 882) (by decide +kernel)⟩
theorem lw_p27 : lw_okq (⟨"OrdersMadeOneModel", "readLed", "(I)V"⟩, 48) := ⟨⟨by decide +kernel, by decide +kernel⟩, List.mem_of_getElem? (i := 669) (by decide +kernel), List.mem_of_getElem? (i := 885) (by decide +kernel), List.mem_of_getElem? (i := 886) (by decide +kernel)⟩
theorem lw_p28 : lw_okq (⟨"OrdersMadeOneModel", "stands", "(III)Z"⟩, 48) := ⟨⟨by decide +kernel, by decide +kernel⟩, List.mem_of_getElem? (i := 669) (by decide +kernel), List.mem_of_getElem? (i := 889) (by decide +kernel), List.mem_of_getElem? (i := 890) (by decide +kernel)⟩
theorem lw_p29 : lw_okq (⟨"OrdersMadeOneModel", "putByte", "(I)V"⟩, 48) := ⟨⟨by decide +kernel, by decide +kernel⟩, List.mem_of_getElem? (i := 669) (by decide +kernel), List.mem_of_getElem? (i := 893) (by decide +kernel), List.mem_of_getElem? (i := 894) (by decide +kernel)⟩
theorem lw_p30 : lw_okq (⟨"OrdersMadeOneModel", "runs", "(II)I"⟩, 48) := ⟨⟨by decide +kernel, by decide +kernel⟩, List.mem_of_getElem? (i := 669) (by decide +kernel), List.mem_of_getElem? (i := 909) (by decide +kernel), List.mem_of_getElem? (i := 910) (by decide +kernel)⟩
theorem lw_p31 : lw_okq (⟨"OrdersMadeOneModel", "does", "(I)I"⟩, 48) := ⟨⟨by decide +kernel, by decide +kernel⟩, List.mem_of_getElem? (i := 669) (by decide +kernel), List.mem_of_getElem? (i := 916) (by decide +kernel), List.mem_of_getElem? (i := 917) (by decide +kernel)⟩
def lw_privs_2 : List (MethodName × Nat) := [(⟨"OrdersMadeOne$Chooser", "mostSaved", "(II)I"⟩, 15), (⟨"OrdersMadeOne$Chooser", "savedFrom", "(II)I"⟩, 15), (⟨"OrdersMadeOne$Chooser", "chooseTwo", "()V"⟩, 15), (⟨"OrdersMadeOne$Chooser", "tryTwo", "(II)V"⟩, 15), (⟨"OrdersMadeOne$Told", "readCode", "(LOrdersMadeOne$Program;LOrdersMadeOne$Rows;I)Z"⟩, 3), (⟨"OrdersMadeOne$Told", "readOrder", "(LOrdersMadeOne$Program;I)Z"⟩, 3), (⟨"OrdersMadeOneModel", "forget", "(I)V"⟩, 48), (⟨"OrdersMadeOneModel", "isProgram", "(I)Z"⟩, 48), (⟨"OrdersMadeOneModel", "isLed", "(II)Z"⟩, 48), (⟨"OrdersMadeOneModel", "takeJoins", "()V"⟩, 48), (⟨"OrdersMadeOneModel", "findLeast", "(II)V"⟩, 48), (⟨"OrdersMadeOneModel", "readLed", "(I)V"⟩, 48), (⟨"OrdersMadeOneModel", "stands", "(III)Z"⟩, 48), (⟨"OrdersMadeOneModel", "putByte", "(I)V"⟩, 48), (⟨"OrdersMadeOneModel", "runs", "(II)I"⟩, 48), (⟨"OrdersMadeOneModel", "does", "(I)I"⟩, 48)]
theorem lw_r2 : ∀ q ∈ lw_privs_2, lw_okq q := List.forall_mem_cons.mpr ⟨lw_p16, List.forall_mem_cons.mpr ⟨lw_p17, List.forall_mem_cons.mpr ⟨lw_p18, List.forall_mem_cons.mpr ⟨lw_p19, List.forall_mem_cons.mpr ⟨lw_p20, List.forall_mem_cons.mpr ⟨lw_p21, List.forall_mem_cons.mpr ⟨lw_p22, List.forall_mem_cons.mpr ⟨lw_p23, List.forall_mem_cons.mpr ⟨lw_p24, List.forall_mem_cons.mpr ⟨lw_p25, List.forall_mem_cons.mpr ⟨lw_p26, List.forall_mem_cons.mpr ⟨lw_p27, List.forall_mem_cons.mpr ⟨lw_p28, List.forall_mem_cons.mpr ⟨lw_p29, List.forall_mem_cons.mpr ⟨lw_p30, List.forall_mem_cons.mpr ⟨lw_p31, fun _ h => absurd h List.not_mem_nil⟩⟩⟩⟩⟩⟩⟩⟩⟩⟩⟩⟩⟩⟩⟩⟩
theorem lw_p32 : lw_okq (⟨"OrdersMadeOneModel", "push", "(I)V"⟩, 48) := ⟨⟨by decide +kernel, by decide +kernel⟩, List.mem_of_getElem? (i := 669) (by decide +kernel), List.mem_of_getElem? (i := 920) (by decide +kernel), List.mem_of_getElem? (i := 921) (by decide +kernel)⟩
theorem lw_p33 : lw_okq (⟨"OrdersMadeOneModel", "pop", "()I"⟩, 48) := ⟨⟨by decide +kernel, by decide +kernel⟩, List.mem_of_getElem? (i := 669) (by decide +kernel), List.mem_of_getElem? (i := 924) (by decide +kernel), List.mem_of_getElem? (i := 925) (by decide +kernel)⟩
theorem lw_p34 : lw_okq (⟨"OrdersMadeOneModel", "costOf", "(I)I"⟩, 48) := ⟨⟨by decide +kernel, by decide +kernel⟩, List.mem_of_getElem? (i := 669) (by decide +kernel), List.mem_of_getElem? (i := 943) (by decide +kernel), List.mem_of_getElem? (i := 944) (by decide +kernel)⟩
theorem lw_p35 : lw_okq (⟨"OrdersMadeOneModel", "findRows", "()V"⟩, 48) := ⟨⟨by decide +kernel, by decide +kernel⟩, List.mem_of_getElem? (i := 669) (by decide +kernel), List.mem_of_getElem? (i := 951) (by decide +kernel), List.mem_of_getElem? (i := 952) (by decide +kernel)⟩
theorem lw_p36 : lw_okq (⟨"OrdersMadeOneModel", "putFound", "(I)V"⟩, 48) := ⟨⟨by decide +kernel, by decide +kernel⟩, List.mem_of_getElem? (i := 669) (by decide +kernel), List.mem_of_getElem? (i := 955) (by decide +kernel), List.mem_of_getElem? (i := 956) (by decide +kernel)⟩
theorem lw_p37 : lw_okq (⟨"OrdersMadeOneModel", "tryRow", "(II)V"⟩, 48) := ⟨⟨by decide +kernel, by decide +kernel⟩, List.mem_of_getElem? (i := 669) (by decide +kernel), List.mem_of_getElem? (i := 959) (by decide +kernel), List.mem_of_getElem? (i := 960) (by decide +kernel)⟩
theorem lw_p38 : lw_okq (⟨"OrdersMadeOneModel", "tryNow", "(II)V"⟩, 48) := ⟨⟨by decide +kernel, by decide +kernel⟩, List.mem_of_getElem? (i := 669) (by decide +kernel), List.mem_of_getElem? (i := 963) (by decide +kernel), List.mem_of_getElem? (i := 964) (by decide +kernel)⟩
theorem lw_p39 : lw_okq (⟨"OrdersMadeOneModel", "readAll", "()Z"⟩, 48) := ⟨⟨by decide +kernel, by decide +kernel⟩, List.mem_of_getElem? (i := 669) (by decide +kernel), List.mem_of_getElem? (i := 983) (by decide +kernel), List.mem_of_getElem? (i := 984) (by decide +kernel)⟩
theorem lw_p40 : lw_okq (⟨"OrdersMadeOneModel", "readOrder", "(I)Z"⟩, 48) := ⟨⟨by decide +kernel, by decide +kernel⟩, List.mem_of_getElem? (i := 669) (by decide +kernel), List.mem_of_getElem? (i := 987) (by decide +kernel), List.mem_of_getElem? (i := 988) (by decide +kernel)⟩
theorem lw_p41 : lw_okq (⟨"OrdersMadeOneModel", "copy", "(II)V"⟩, 48) := ⟨⟨by decide +kernel, by decide +kernel⟩, List.mem_of_getElem? (i := 669) (by decide +kernel), List.mem_of_getElem? (i := 999) (by decide +kernel), List.mem_of_getElem? (i := 1000) (by decide +kernel)⟩
def lw_privs_3 : List (MethodName × Nat) := [(⟨"OrdersMadeOneModel", "push", "(I)V"⟩, 48), (⟨"OrdersMadeOneModel", "pop", "()I"⟩, 48), (⟨"OrdersMadeOneModel", "costOf", "(I)I"⟩, 48), (⟨"OrdersMadeOneModel", "findRows", "()V"⟩, 48), (⟨"OrdersMadeOneModel", "putFound", "(I)V"⟩, 48), (⟨"OrdersMadeOneModel", "tryRow", "(II)V"⟩, 48), (⟨"OrdersMadeOneModel", "tryNow", "(II)V"⟩, 48), (⟨"OrdersMadeOneModel", "readAll", "()Z"⟩, 48), (⟨"OrdersMadeOneModel", "readOrder", "(I)Z"⟩, 48), (⟨"OrdersMadeOneModel", "copy", "(II)V"⟩, 48)]
theorem lw_r3 : ∀ q ∈ lw_privs_3, lw_okq q := List.forall_mem_cons.mpr ⟨lw_p32, List.forall_mem_cons.mpr ⟨lw_p33, List.forall_mem_cons.mpr ⟨lw_p34, List.forall_mem_cons.mpr ⟨lw_p35, List.forall_mem_cons.mpr ⟨lw_p36, List.forall_mem_cons.mpr ⟨lw_p37, List.forall_mem_cons.mpr ⟨lw_p38, List.forall_mem_cons.mpr ⟨lw_p39, List.forall_mem_cons.mpr ⟨lw_p40, List.forall_mem_cons.mpr ⟨lw_p41, fun _ h => absurd h List.not_mem_nil⟩⟩⟩⟩⟩⟩⟩⟩⟩⟩
def lw_privs : List (MethodName × Nat) := lw_privs_1 ++ (lw_privs_2 ++ (lw_privs_3))
def lw_tbl : List Cond := k2_sels lw_privs ++ tables_1
theorem lw_privs_ok : ∀ q ∈ lw_privs, lw_okq q := by
  show ∀ q ∈ lw_privs_1 ++ (lw_privs_2 ++ (lw_privs_3)), lw_okq q
  exact List.forall_mem_append.mpr ⟨lw_r1, List.forall_mem_append.mpr ⟨lw_r2, lw_r3⟩⟩
end
section
def RX0 : String := "OrdersMadeOne$Chooser"
def TX0 : u_T := fun k => match k with
  | 0 => ("OrdersMadeOne$Chooser", "rowCount", "I", false)
  | 1 => ("OrdersMadeOne$Chooser", "rows", "[I", true)
  | 2 => ("OrdersMadeOne$Chooser", "lastStands", "[I", true)
  | 3 => ("OrdersMadeOne$Chooser", "savedAlone", "[I", true)
  | 4 => ("OrdersMadeOne$Chooser", "savedFromHere", "[I", true)
  | 5 => ("OrdersMadeOne$Chooser", "standCount", "I", false)
  | 6 => ("OrdersMadeOne$Chooser", "places", "[I", true)
  | 7 => ("OrdersMadeOne$Chooser", "ends", "[I", true)
  | 8 => ("OrdersMadeOne$Chooser", "saves", "[I", true)
  | 9 => ("OrdersMadeOne$Chooser", "standsAhead", "[I", true)
  | 10 => ("OrdersMadeOne$Chooser", "stepPlaces", "[I", true)
  | 11 => ("OrdersMadeOne$Chooser", "stepSaved", "[I", true)
  | 12 => ("OrdersMadeOne$Chooser", "saved", "I", false)
  | 13 => ("OrdersMadeOne$Chooser", "first", "I", false)
  | _ => ("OrdersMadeOne$Chooser", "second", "I", false)
def tyX0 : Nat → FieldType := fun k => match k with
  | 0 => .int
  | 1 => .array .int
  | 2 => .array .int
  | 3 => .array .int
  | 4 => .array .int
  | 5 => .int
  | 6 => .array .int
  | 7 => .array .int
  | 8 => .array .int
  | 9 => .array .int
  | 10 => .array .int
  | 11 => .array .int
  | 12 => .int
  | 13 => .int
  | _ => .int
theorem nmX0 : ∀ a, a < 15 → ∀ b, b < 15 → a ≠ b → (TX0 a).2.1 ≠ (TX0 b).2.1 := by decide +kernel
theorem tyX0_ok : ∀ k, k < 15 → parseFieldDescriptor (TX0 k).2.2.1 = some (tyX0 k) := by decide +kernel
abbrev cX0_init : ByteArray := prog_2_method_1_code
def yX0_init : MethodName := ⟨RX0, "<init>", "()V"⟩
abbrev cX0_search : ByteArray := prog_2_method_2_code
def yX0_search : MethodName := ⟨RX0, "search", "(LOrdersMadeOne$State;IZ)I"⟩
abbrev cX0_gather : ByteArray := prog_2_method_3_code
def yX0_gather : MethodName := ⟨RX0, "gather", "(LOrdersMadeOne$State;Z)I"⟩
abbrev cX0_gatherAt : ByteArray := prog_2_method_4_code
def yX0_gatherAt : MethodName := ⟨RX0, "gatherAt", "(LOrdersMadeOne$Program;IIZ)V"⟩
abbrev cX0_addStand : ByteArray := prog_2_method_5_code
def yX0_addStand : MethodName := ⟨RX0, "addStand", "(IIII)V"⟩
abbrev cX0_findRow : ByteArray := prog_2_method_6_code
def yX0_findRow : MethodName := ⟨RX0, "findRow", "(I)I"⟩
abbrev cX0_chooseOne : ByteArray := prog_2_method_7_code
def yX0_chooseOne : MethodName := ⟨RX0, "chooseOne", "()V"⟩
abbrev cX0_chooseTwo : ByteArray := prog_2_method_8_code
def yX0_chooseTwo : MethodName := ⟨RX0, "chooseTwo", "()V"⟩
abbrev cX0_tryTwo : ByteArray := prog_2_method_9_code
def yX0_tryTwo : MethodName := ⟨RX0, "tryTwo", "(II)V"⟩
abbrev cX0_mostSaved : ByteArray := prog_2_method_10_code
def yX0_mostSaved : MethodName := ⟨RX0, "mostSaved", "(II)I"⟩
abbrev cX0_savedFrom : ByteArray := prog_2_method_11_code
def yX0_savedFrom : MethodName := ⟨RX0, "savedFrom", "(II)I"⟩
def RX1 : String := "OrdersMadeOne$Kind"
def TX1 : u_T := fun k => match k with
  | _ => ("", "", "", false)
def tyX1 : Nat → FieldType := fun k => match k with
  | _ => .int
theorem nmX1 : ∀ a, a < 0 → ∀ b, b < 0 → a ≠ b → (TX1 a).2.1 ≠ (TX1 b).2.1 := by decide +kernel
theorem tyX1_ok : ∀ k, k < 0 → parseFieldDescriptor (TX1 k).2.2.1 = some (tyX1 k) := by decide +kernel
abbrev cX1_isOne : ByteArray := prog_3_method_2_code
def yX1_isOne : MethodName := ⟨RX1, "isOne", "(I)Z"⟩
abbrev cX1_hasArgument : ByteArray := prog_3_method_3_code
def yX1_hasArgument : MethodName := ⟨RX1, "hasArgument", "(I)Z"⟩
abbrev cX1_fits : ByteArray := prog_3_method_4_code
def yX1_fits : MethodName := ⟨RX1, "fits", "(II)Z"⟩
abbrev cX1_leads : ByteArray := prog_3_method_5_code
def yX1_leads : MethodName := ⟨RX1, "leads", "(I)Z"⟩
abbrev cX1_isLastAlone : ByteArray := prog_3_method_6_code
def yX1_isLastAlone : MethodName := ⟨RX1, "isLastAlone", "(I)Z"⟩
def RX2 : String := "OrdersMadeOne$Packed"
def TX2 : u_T := fun k => match k with
  | 0 => ("OrdersMadeOne$Packed", "there", "Z", false)
  | 1 => ("OrdersMadeOne$Packed", "program", "LOrdersMadeOne$Program;", true)
  | 2 => ("OrdersMadeOne$Packed", "codeCount", "I", false)
  | 3 => ("OrdersMadeOne$Packed", "numbers", "[I", true)
  | 4 => ("OrdersMadeOne$Packed", "places", "[I", true)
  | 5 => ("OrdersMadeOne$Packed", "lengths", "[I", true)
  | 6 => ("OrdersMadeOne$Packed", "byteCount", "I", false)
  | 7 => ("OrdersMadeOne$Packed", "written", "[I", true)
  | _ => ("OrdersMadeOne$Packed", "codesAt", "[I", true)
def tyX2 : Nat → FieldType := fun k => match k with
  | 0 => .boolean
  | 1 => .object "OrdersMadeOne$Program"
  | 2 => .int
  | 3 => .array .int
  | 4 => .array .int
  | 5 => .array .int
  | 6 => .int
  | 7 => .array .int
  | _ => .array .int
theorem nmX2 : ∀ a, a < 9 → ∀ b, b < 9 → a ≠ b → (TX2 a).2.1 ≠ (TX2 b).2.1 := by decide +kernel
theorem tyX2_ok : ∀ k, k < 9 → parseFieldDescriptor (TX2 k).2.2.1 = some (tyX2 k) := by decide +kernel
abbrev cX2_init : ByteArray := prog_4_method_1_code
def yX2_init : MethodName := ⟨RX2, "<init>", "()V"⟩
abbrev cX2_hasCode : ByteArray := prog_4_method_2_code
def yX2_hasCode : MethodName := ⟨RX2, "hasCode", "(I)Z"⟩
abbrev cX2_hasByte : ByteArray := prog_4_method_3_code
def yX2_hasByte : MethodName := ⟨RX2, "hasByte", "(I)Z"⟩
abbrev cX2_beginsAt : ByteArray := prog_4_method_4_code
def yX2_beginsAt : MethodName := ⟨RX2, "beginsAt", "(I)Z"⟩
abbrev cX2_make : ByteArray := prog_4_method_5_code
def yX2_make : MethodName := ⟨RX2, "make", "(LOrdersMadeOne$Program;LOrdersMadeOne$Ways;)V"⟩
abbrev cX2_beginCode : ByteArray := prog_4_method_6_code
def yX2_beginCode : MethodName := ⟨RX2, "beginCode", "(III)V"⟩
abbrev cX2_write : ByteArray := prog_4_method_7_code
def yX2_write : MethodName := ⟨RX2, "write", "(I)V"⟩
abbrev cX2_copyFrom : ByteArray := prog_4_method_8_code
def yX2_copyFrom : MethodName := ⟨RX2, "copyFrom", "(LOrdersMadeOne$Packed;)V"⟩
def RX3 : String := "OrdersMadeOne$Program"
def TX3 : u_T := fun k => match k with
  | 0 => ("OrdersMadeOne$Program", "size", "I", false)
  | 1 => ("OrdersMadeOne$Program", "kinds", "[I", true)
  | 2 => ("OrdersMadeOne$Program", "arguments", "[I", true)
  | 3 => ("OrdersMadeOne$Program", "times", "[I", true)
  | _ => ("OrdersMadeOne$Program", "leading", "[I", true)
def tyX3 : Nat → FieldType := fun k => match k with
  | 0 => .int
  | 1 => .array .int
  | 2 => .array .int
  | 3 => .array .int
  | _ => .array .int
theorem nmX3 : ∀ a, a < 5 → ∀ b, b < 5 → a ≠ b → (TX3 a).2.1 ≠ (TX3 b).2.1 := by decide +kernel
theorem tyX3_ok : ∀ k, k < 5 → parseFieldDescriptor (TX3 k).2.2.1 = some (tyX3 k) := by decide +kernel
abbrev cX3_init : ByteArray := prog_5_method_1_code
def yX3_init : MethodName := ⟨RX3, "<init>", "()V"⟩
abbrev cX3_clear : ByteArray := prog_5_method_2_code
def yX3_clear : MethodName := ⟨RX3, "clear", "()V"⟩
abbrev cX3_forgetRun : ByteArray := prog_5_method_3_code
def yX3_forgetRun : MethodName := ⟨RX3, "forgetRun", "()V"⟩
abbrev cX3_has : ByteArray := prog_5_method_4_code
def yX3_has : MethodName := ⟨RX3, "has", "(I)Z"⟩
abbrev cX3_isLedTo : ByteArray := prog_5_method_5_code
def yX3_isLedTo : MethodName := ⟨RX3, "isLedTo", "(I)Z"⟩
abbrev cX3_append : ByteArray := prog_5_method_6_code
def yX3_append : MethodName := ⟨RX3, "append", "(II)Z"⟩
abbrev cX3_replace : ByteArray := prog_5_method_7_code
def yX3_replace : MethodName := ⟨RX3, "replace", "(II)Z"⟩
abbrev cX3_reach : ByteArray := prog_5_method_8_code
def yX3_reach : MethodName := ⟨RX3, "reach", "(I)I"⟩
abbrev cX3_weight : ByteArray := prog_5_method_9_code
def yX3_weight : MethodName := ⟨RX3, "weight", "(IZ)I"⟩
abbrev cX3_copyFrom : ByteArray := prog_5_method_10_code
def yX3_copyFrom : MethodName := ⟨RX3, "copyFrom", "(LOrdersMadeOne$Program;)V"⟩
def RX4 : String := "OrdersMadeOne$Row"
def TX4 : u_T := fun k => match k with
  | _ => ("", "", "", false)
def tyX4 : Nat → FieldType := fun k => match k with
  | _ => .int
theorem nmX4 : ∀ a, a < 0 → ∀ b, b < 0 → a ≠ b → (TX4 a).2.1 ≠ (TX4 b).2.1 := by decide +kernel
theorem tyX4_ok : ∀ k, k < 0 → parseFieldDescriptor (TX4 k).2.2.1 = some (tyX4 k) := by decide +kernel
abbrev cX4_of : ByteArray := prog_6_method_2_code
def yX4_of : MethodName := ⟨RX4, "of", "(IIIII)I"⟩
abbrev cX4_with : ByteArray := prog_6_method_3_code
def yX4_with : MethodName := ⟨RX4, "with", "(III)I"⟩
abbrev cX4_kind : ByteArray := prog_6_method_4_code
def yX4_kind : MethodName := ⟨RX4, "kind", "(II)I"⟩
def RX5 : String := "OrdersMadeOne$Rows"
def TX5 : u_T := fun k => match k with
  | 0 => ("OrdersMadeOne$Rows", "size", "I", false)
  | _ => ("OrdersMadeOne$Rows", "rows", "[I", true)
def tyX5 : Nat → FieldType := fun k => match k with
  | 0 => .int
  | _ => .array .int
theorem nmX5 : ∀ a, a < 2 → ∀ b, b < 2 → a ≠ b → (TX5 a).2.1 ≠ (TX5 b).2.1 := by decide +kernel
theorem tyX5_ok : ∀ k, k < 2 → parseFieldDescriptor (TX5 k).2.2.1 = some (tyX5 k) := by decide +kernel
abbrev cX5_init : ByteArray := prog_7_method_1_code
def yX5_init : MethodName := ⟨RX5, "<init>", "()V"⟩
abbrev cX5_append : ByteArray := prog_7_method_2_code
def yX5_append : MethodName := ⟨RX5, "append", "(I)Z"⟩
abbrev cX5_indexOf : ByteArray := prog_7_method_3_code
def yX5_indexOf : MethodName := ⟨RX5, "indexOf", "(I)I"⟩
abbrev cX5_kind : ByteArray := prog_7_method_4_code
def yX5_kind : MethodName := ⟨RX5, "kind", "(II)I"⟩
abbrev cX5_copyFrom : ByteArray := prog_7_method_5_code
def yX5_copyFrom : MethodName := ⟨RX5, "copyFrom", "(LOrdersMadeOne$Rows;)V"⟩
def RX6 : String := "OrdersMadeOne$Run"
def TX6 : u_T := fun k => match k with
  | 0 => ("OrdersMadeOne$Run", "there", "Z", false)
  | 1 => ("OrdersMadeOne$Run", "done", "I", false)
  | 2 => ("OrdersMadeOne$Run", "begun", "I", false)
  | 3 => ("OrdersMadeOne$Run", "place", "I", false)
  | 4 => ("OrdersMadeOne$Run", "pileSize", "I", false)
  | 5 => ("OrdersMadeOne$Run", "pile", "[I", true)
  | 6 => ("OrdersMadeOne$Run", "outSize", "I", false)
  | 7 => ("OrdersMadeOne$Run", "out", "[I", true)
  | _ => ("OrdersMadeOne$Run", "registers", "[I", true)
def tyX6 : Nat → FieldType := fun k => match k with
  | 0 => .boolean
  | 1 => .int
  | 2 => .int
  | 3 => .int
  | 4 => .int
  | 5 => .array .int
  | 6 => .int
  | 7 => .array .int
  | _ => .array .int
theorem nmX6 : ∀ a, a < 9 → ∀ b, b < 9 → a ≠ b → (TX6 a).2.1 ≠ (TX6 b).2.1 := by decide +kernel
theorem tyX6_ok : ∀ k, k < 9 → parseFieldDescriptor (TX6 k).2.2.1 = some (tyX6 k) := by decide +kernel
abbrev cX6_init : ByteArray := prog_8_method_1_code
def yX6_init : MethodName := ⟨RX6, "<init>", "()V"⟩
abbrev cX6_follow : ByteArray := prog_8_method_2_code
def yX6_follow : MethodName := ⟨RX6, "follow", "(LOrdersMadeOne$Program;LOrdersMadeOne$Packed;I)I"⟩
abbrev cX6_clear : ByteArray := prog_8_method_3_code
def yX6_clear : MethodName := ⟨RX6, "clear", "()V"⟩
abbrev cX6_endAhead : ByteArray := prog_8_method_4_code
def yX6_endAhead : MethodName := ⟨RX6, "endAhead", "(LOrdersMadeOne$Program;I)I"⟩
abbrev cX6_tryOrder : ByteArray := prog_8_method_5_code
def yX6_tryOrder : MethodName := ⟨RX6, "tryOrder", "(LOrdersMadeOne$Program;)I"⟩
abbrev cX6_carryOut : ByteArray := prog_8_method_6_code
def yX6_carryOut : MethodName := ⟨RX6, "carryOut", "(II)V"⟩
abbrev cX6_layOneForTwo : ByteArray := prog_8_method_7_code
def yX6_layOneForTwo : MethodName := ⟨RX6, "layOneForTwo", "(I)V"⟩
abbrev cX6_turnUpperTwo : ByteArray := prog_8_method_8_code
def yX6_turnUpperTwo : MethodName := ⟨RX6, "turnUpperTwo", "()V"⟩
abbrev cX6_lay : ByteArray := prog_8_method_9_code
def yX6_lay : MethodName := ⟨RX6, "lay", "(I)V"⟩
abbrev cX6_lift : ByteArray := prog_8_method_10_code
def yX6_lift : MethodName := ⟨RX6, "lift", "()I"⟩
abbrev cX6_copyFrom : ByteArray := prog_8_method_11_code
def yX6_copyFrom : MethodName := ⟨RX6, "copyFrom", "(LOrdersMadeOne$Run;)V"⟩
def RX7 : String := "OrdersMadeOne$State"
def TX7 : u_T := fun k => match k with
  | 0 => ("OrdersMadeOne$State", "programCount", "I", false)
  | 1 => ("OrdersMadeOne$State", "programs", "[LOrdersMadeOne$Program;", true)
  | 2 => ("OrdersMadeOne$State", "joined", "LOrdersMadeOne$Rows;", true)
  | 3 => ("OrdersMadeOne$State", "packed", "LOrdersMadeOne$Packed;", true)
  | 4 => ("OrdersMadeOne$State", "latest", "LOrdersMadeOne$Run;", true)
  | 5 => ("OrdersMadeOne$State", "wasAsked", "Z", false)
  | 6 => ("OrdersMadeOne$State", "chosen", "LOrdersMadeOne$Rows;", true)
  | _ => ("OrdersMadeOne$State", "told", "LOrdersMadeOne$Told;", true)
def tyX7 : Nat → FieldType := fun k => match k with
  | 0 => .int
  | 1 => .array (.object "OrdersMadeOne$Program")
  | 2 => .object "OrdersMadeOne$Rows"
  | 3 => .object "OrdersMadeOne$Packed"
  | 4 => .object "OrdersMadeOne$Run"
  | 5 => .boolean
  | 6 => .object "OrdersMadeOne$Rows"
  | _ => .object "OrdersMadeOne$Told"
theorem nmX7 : ∀ a, a < 8 → ∀ b, b < 8 → a ≠ b → (TX7 a).2.1 ≠ (TX7 b).2.1 := by decide +kernel
theorem tyX7_ok : ∀ k, k < 8 → parseFieldDescriptor (TX7 k).2.2.1 = some (tyX7 k) := by decide +kernel
abbrev cX7_init : ByteArray := prog_9_method_1_code
def yX7_init : MethodName := ⟨RX7, "<init>", "()V"⟩
abbrev cX7_hasProgram : ByteArray := prog_9_method_2_code
def yX7_hasProgram : MethodName := ⟨RX7, "hasProgram", "(I)Z"⟩
abbrev cX7_hasOrder : ByteArray := prog_9_method_3_code
def yX7_hasOrder : MethodName := ⟨RX7, "hasOrder", "(II)Z"⟩
abbrev cX7_copyFrom : ByteArray := prog_9_method_4_code
def yX7_copyFrom : MethodName := ⟨RX7, "copyFrom", "(LOrdersMadeOne$State;)V"⟩
def RX8 : String := "OrdersMadeOne$Told"
def TX8 : u_T := fun k => match k with
  | 0 => ("OrdersMadeOne$Told", "size", "I", false)
  | 1 => ("OrdersMadeOne$Told", "told", "[I", true)
  | _ => ("OrdersMadeOne$Told", "next", "I", false)
def tyX8 : Nat → FieldType := fun k => match k with
  | 0 => .int
  | 1 => .array .int
  | _ => .int
theorem nmX8 : ∀ a, a < 3 → ∀ b, b < 3 → a ≠ b → (TX8 a).2.1 ≠ (TX8 b).2.1 := by decide +kernel
theorem tyX8_ok : ∀ k, k < 3 → parseFieldDescriptor (TX8 k).2.2.1 = some (tyX8 k) := by decide +kernel
abbrev cX8_init : ByteArray := prog_10_method_1_code
def yX8_init : MethodName := ⟨RX8, "<init>", "()V"⟩
abbrev cX8_append : ByteArray := prog_10_method_2_code
def yX8_append : MethodName := ⟨RX8, "append", "(II)Z"⟩
abbrev cX8_readInto : ByteArray := prog_10_method_3_code
def yX8_readInto : MethodName := ⟨RX8, "readInto", "(LOrdersMadeOne$Program;LOrdersMadeOne$Rows;)Z"⟩
abbrev cX8_readCode : ByteArray := prog_10_method_4_code
def yX8_readCode : MethodName := ⟨RX8, "readCode", "(LOrdersMadeOne$Program;LOrdersMadeOne$Rows;I)Z"⟩
abbrev cX8_readOrder : ByteArray := prog_10_method_5_code
def yX8_readOrder : MethodName := ⟨RX8, "readOrder", "(LOrdersMadeOne$Program;I)Z"⟩
abbrev cX8_copyFrom : ByteArray := prog_10_method_6_code
def yX8_copyFrom : MethodName := ⟨RX8, "copyFrom", "(LOrdersMadeOne$Told;)V"⟩
def RX9 : String := "OrdersMadeOne$Ways"
def TX9 : u_T := fun k => match k with
  | 0 => ("OrdersMadeOne$Ways", "lengths", "[I", true)
  | 1 => ("OrdersMadeOne$Ways", "numbers", "[I", true)
  | _ => ("OrdersMadeOne$Ways", "least", "[I", true)
def tyX9 : Nat → FieldType := fun k => match k with
  | 0 => .array .int
  | 1 => .array .int
  | _ => .array .int
theorem nmX9 : ∀ a, a < 3 → ∀ b, b < 3 → a ≠ b → (TX9 a).2.1 ≠ (TX9 b).2.1 := by decide +kernel
theorem tyX9_ok : ∀ k, k < 3 → parseFieldDescriptor (TX9 k).2.2.1 = some (tyX9 k) := by decide +kernel
abbrev cX9_init : ByteArray := prog_11_method_1_code
def yX9_init : MethodName := ⟨RX9, "<init>", "()V"⟩
abbrev cX9_measure : ByteArray := prog_11_method_2_code
def yX9_measure : MethodName := ⟨RX9, "measure", "(LOrdersMadeOne$Program;LOrdersMadeOne$Rows;Z)I"⟩
abbrev cX9_begin : ByteArray := prog_11_method_3_code
def yX9_begin : MethodName := ⟨RX9, "begin", "(LOrdersMadeOne$Program;LOrdersMadeOne$Rows;I)V"⟩
def RX10 : String := "OrdersMadeOne"
def TX10 : u_T := fun k => match k with
  | 0 => ("OrdersMadeOne", "now", "LOrdersMadeOne$State;", true)
  | 1 => ("OrdersMadeOne", "images", "[LOrdersMadeOne$State;", true)
  | 2 => ("OrdersMadeOne", "ways", "LOrdersMadeOne$Ways;", true)
  | _ => ("OrdersMadeOne", "chooser", "LOrdersMadeOne$Chooser;", true)
def tyX10 : Nat → FieldType := fun k => match k with
  | 0 => .object "OrdersMadeOne$State"
  | 1 => .array (.object "OrdersMadeOne$State")
  | 2 => .object "OrdersMadeOne$Ways"
  | _ => .object "OrdersMadeOne$Chooser"
theorem nmX10 : ∀ a, a < 4 → ∀ b, b < 4 → a ≠ b → (TX10 a).2.1 ≠ (TX10 b).2.1 := by decide +kernel
theorem tyX10_ok : ∀ k, k < 4 → parseFieldDescriptor (TX10 k).2.2.1 = some (tyX10 k) := by decide +kernel
abbrev cX10_init : ByteArray := prog_1_method_1_code
def yX10_init : MethodName := ⟨RX10, "<init>", "()V"⟩
abbrev cX10_program : ByteArray := prog_1_method_2_code
def yX10_program : MethodName := ⟨RX10, "program", "()I"⟩
abbrev cX10_order : ByteArray := prog_1_method_3_code
def yX10_order : MethodName := ⟨RX10, "order", "(III)I"⟩
abbrev cX10_change : ByteArray := prog_1_method_4_code
def yX10_change : MethodName := ⟨RX10, "change", "(III)Z"⟩
abbrev cX10_tell : ByteArray := prog_1_method_5_code
def yX10_tell : MethodName := ⟨RX10, "tell", "(III)I"⟩
abbrev cX10_join : ByteArray := prog_1_method_6_code
def yX10_join : MethodName := ⟨RX10, "join", "(IIIII)I"⟩
abbrev cX10_part : ByteArray := prog_1_method_7_code
def yX10_part : MethodName := ⟨RX10, "part", "()V"⟩
abbrev cX10_joined : ByteArray := prog_1_method_8_code
def yX10_joined : MethodName := ⟨RX10, "joined", "(II)I"⟩
abbrev cX10_pack : ByteArray := prog_1_method_9_code
def yX10_pack : MethodName := ⟨RX10, "pack", "(I)I"⟩
abbrev cX10_code : ByteArray := prog_1_method_10_code
def yX10_code : MethodName := ⟨RX10, "code", "(II)I"⟩
abbrev cX10_bytes : ByteArray := prog_1_method_11_code
def yX10_bytes : MethodName := ⟨RX10, "bytes", "(I)I"⟩
abbrev cX10_run : ByteArray := prog_1_method_12_code
def yX10_run : MethodName := ⟨RX10, "run", "(IZI)I"⟩
abbrev cX10_ran : ByteArray := prog_1_method_13_code
def yX10_ran : MethodName := ⟨RX10, "ran", "(I)I"⟩
abbrev cX10_had : ByteArray := prog_1_method_14_code
def yX10_had : MethodName := ⟨RX10, "had", "(II)I"⟩
abbrev cX10_cost : ByteArray := prog_1_method_15_code
def yX10_cost : MethodName := ⟨RX10, "cost", "(Z)I"⟩
abbrev cX10_choose : ByteArray := prog_1_method_16_code
def yX10_choose : MethodName := ⟨RX10, "choose", "(IZ)I"⟩
abbrev cX10_chosen : ByteArray := prog_1_method_17_code
def yX10_chosen : MethodName := ⟨RX10, "chosen", "(II)I"⟩
abbrev cX10_take : ByteArray := prog_1_method_18_code
def yX10_take : MethodName := ⟨RX10, "take", "()I"⟩
abbrev cX10_feed : ByteArray := prog_1_method_19_code
def yX10_feed : MethodName := ⟨RX10, "feed", "(II)I"⟩
abbrev cX10_read : ByteArray := prog_1_method_20_code
def yX10_read : MethodName := ⟨RX10, "read", "()I"⟩
abbrev cX10_count : ByteArray := prog_1_method_21_code
def yX10_count : MethodName := ⟨RX10, "count", "(I)I"⟩
abbrev cX10_image : ByteArray := prog_1_method_22_code
def yX10_image : MethodName := ⟨RX10, "image", "(I)Z"⟩
abbrev cX10_again : ByteArray := prog_1_method_23_code
def yX10_again : MethodName := ⟨RX10, "again", "(I)Z"⟩
abbrev cX10_numberOf : ByteArray := prog_1_method_24_code
def yX10_numberOf : MethodName := ⟨RX10, "numberOf", "([III)I"⟩
def RX11 : String := "OrdersMadeOneModel"
def TX11 : u_T := fun k => match k with
  | 0 => ("OrdersMadeOneModel", "code", "I", false)
  | 1 => ("OrdersMadeOneModel", "programs", "[I", true)
  | 2 => ("OrdersMadeOneModel", "size", "[I", true)
  | 3 => ("OrdersMadeOneModel", "kind", "[I", true)
  | 4 => ("OrdersMadeOneModel", "argument", "[I", true)
  | 5 => ("OrdersMadeOneModel", "done", "[I", true)
  | 6 => ("OrdersMadeOneModel", "joins", "[I", true)
  | 7 => ("OrdersMadeOneModel", "join", "[I", true)
  | 8 => ("OrdersMadeOneModel", "packedSize", "[I", true)
  | 9 => ("OrdersMadeOneModel", "packedKind", "[I", true)
  | 10 => ("OrdersMadeOneModel", "packedArgument", "[I", true)
  | 11 => ("OrdersMadeOneModel", "packedCodes", "[I", true)
  | 12 => ("OrdersMadeOneModel", "packed", "[I", true)
  | 13 => ("OrdersMadeOneModel", "packedBytes", "[I", true)
  | 14 => ("OrdersMadeOneModel", "byteRow", "[I", true)
  | 15 => ("OrdersMadeOneModel", "ended", "[I", true)
  | 16 => ("OrdersMadeOneModel", "ranDone", "[I", true)
  | 17 => ("OrdersMadeOneModel", "ranCodes", "[I", true)
  | 18 => ("OrdersMadeOneModel", "ranPlace", "[I", true)
  | 19 => ("OrdersMadeOneModel", "piled", "[I", true)
  | 20 => ("OrdersMadeOneModel", "pile", "[I", true)
  | 21 => ("OrdersMadeOneModel", "outs", "[I", true)
  | 22 => ("OrdersMadeOneModel", "out", "[I", true)
  | 23 => ("OrdersMadeOneModel", "register", "[I", true)
  | 24 => ("OrdersMadeOneModel", "rowsChosen", "[I", true)
  | 25 => ("OrdersMadeOneModel", "chosenRow", "[I", true)
  | 26 => ("OrdersMadeOneModel", "told", "[I", true)
  | 27 => ("OrdersMadeOneModel", "toldByte", "[I", true)
  | 28 => ("OrdersMadeOneModel", "tries", "I", false)
  | 29 => ("OrdersMadeOneModel", "row", "[I", true)
  | 30 => ("OrdersMadeOneModel", "led", "[Z", true)
  | 31 => ("OrdersMadeOneModel", "least", "[I", true)
  | 32 => ("OrdersMadeOneModel", "runKind", "[I", true)
  | 33 => ("OrdersMadeOneModel", "runArgument", "[I", true)
  | 34 => ("OrdersMadeOneModel", "runDone", "[I", true)
  | 35 => ("OrdersMadeOneModel", "begins", "[Z", true)
  | 36 => ("OrdersMadeOneModel", "found", "[I", true)
  | 37 => ("OrdersMadeOneModel", "gain", "[I", true)
  | 38 => ("OrdersMadeOneModel", "many", "I", false)
  | 39 => ("OrdersMadeOneModel", "bestCost", "I", false)
  | 40 => ("OrdersMadeOneModel", "bestMany", "I", false)
  | 41 => ("OrdersMadeOneModel", "best", "[I", true)
  | 42 => ("OrdersMadeOneModel", "now", "[I", true)
  | 43 => ("OrdersMadeOneModel", "readKind", "[I", true)
  | 44 => ("OrdersMadeOneModel", "readArgument", "[I", true)
  | 45 => ("OrdersMadeOneModel", "reads", "I", false)
  | 46 => ("OrdersMadeOneModel", "next", "I", false)
  | _ => ("OrdersMadeOneModel", "has", "[Z", true)
def tyX11 : Nat → FieldType := fun k => match k with
  | 0 => .int
  | 1 => .array .int
  | 2 => .array .int
  | 3 => .array .int
  | 4 => .array .int
  | 5 => .array .int
  | 6 => .array .int
  | 7 => .array .int
  | 8 => .array .int
  | 9 => .array .int
  | 10 => .array .int
  | 11 => .array .int
  | 12 => .array .int
  | 13 => .array .int
  | 14 => .array .int
  | 15 => .array .int
  | 16 => .array .int
  | 17 => .array .int
  | 18 => .array .int
  | 19 => .array .int
  | 20 => .array .int
  | 21 => .array .int
  | 22 => .array .int
  | 23 => .array .int
  | 24 => .array .int
  | 25 => .array .int
  | 26 => .array .int
  | 27 => .array .int
  | 28 => .int
  | 29 => .array .int
  | 30 => .array .boolean
  | 31 => .array .int
  | 32 => .array .int
  | 33 => .array .int
  | 34 => .array .int
  | 35 => .array .boolean
  | 36 => .array .int
  | 37 => .array .int
  | 38 => .int
  | 39 => .int
  | 40 => .int
  | 41 => .array .int
  | 42 => .array .int
  | 43 => .array .int
  | 44 => .array .int
  | 45 => .int
  | 46 => .int
  | _ => .array .boolean
theorem nmX11 : ∀ a, a < 48 → ∀ b, b < 48 → a ≠ b → (TX11 a).2.1 ≠ (TX11 b).2.1 := by decide +kernel
theorem tyX11_ok : ∀ k, k < 48 → parseFieldDescriptor (TX11 k).2.2.1 = some (tyX11 k) := by decide +kernel
abbrev cX11_init : ByteArray := prog_13_method_1_code
def yX11_init : MethodName := ⟨RX11, "<init>", "()V"⟩
abbrev cX11_in : ByteArray := prog_13_method_3_code
def yX11_in : MethodName := ⟨RX11, "in", "(III)Z"⟩
abbrev cX11_move : ByteArray := prog_13_method_4_code
def yX11_move : MethodName := ⟨RX11, "move", "([IIII)V"⟩
abbrev cX11_copy : ByteArray := prog_13_method_5_code
def yX11_copy : MethodName := ⟨RX11, "copy", "(II)V"⟩
abbrev cX11_isProgram : ByteArray := prog_13_method_6_code
def yX11_isProgram : MethodName := ⟨RX11, "isProgram", "(I)Z"⟩
abbrev cX11_hasArgument : ByteArray := prog_13_method_7_code
def yX11_hasArgument : MethodName := ⟨RX11, "hasArgument", "(I)Z"⟩
abbrev cX11_isArgument : ByteArray := prog_13_method_8_code
def yX11_isArgument : MethodName := ⟨RX11, "isArgument", "(II)Z"⟩
abbrev cX11_forget : ByteArray := prog_13_method_9_code
def yX11_forget : MethodName := ⟨RX11, "forget", "(I)V"⟩
abbrev cX11_program : ByteArray := prog_13_method_10_code
def yX11_program : MethodName := ⟨RX11, "program", "()I"⟩
abbrev cX11_order : ByteArray := prog_13_method_11_code
def yX11_order : MethodName := ⟨RX11, "order", "(III)I"⟩
abbrev cX11_change : ByteArray := prog_13_method_12_code
def yX11_change : MethodName := ⟨RX11, "change", "(III)Z"⟩
abbrev cX11_isLed : ByteArray := prog_13_method_13_code
def yX11_isLed : MethodName := ⟨RX11, "isLed", "(II)Z"⟩
abbrev cX11_tell : ByteArray := prog_13_method_14_code
def yX11_tell : MethodName := ⟨RX11, "tell", "(III)I"⟩
abbrev cX11_isLast : ByteArray := prog_13_method_15_code
def yX11_isLast : MethodName := ⟨RX11, "isLast", "(I)Z"⟩
abbrev cX11_join : ByteArray := prog_13_method_16_code
def yX11_join : MethodName := ⟨RX11, "join", "(IIIII)I"⟩
abbrev cX11_part : ByteArray := prog_13_method_17_code
def yX11_part : MethodName := ⟨RX11, "part", "()V"⟩
abbrev cX11_joined : ByteArray := prog_13_method_18_code
def yX11_joined : MethodName := ⟨RX11, "joined", "(II)I"⟩
abbrev cX11_readLed : ByteArray := prog_13_method_19_code
def yX11_readLed : MethodName := ⟨RX11, "readLed", "(I)V"⟩
abbrev cX11_stands : ByteArray := prog_13_method_20_code
def yX11_stands : MethodName := ⟨RX11, "stands", "(III)Z"⟩
abbrev cX11_findLeast : ByteArray := prog_13_method_21_code
def yX11_findLeast : MethodName := ⟨RX11, "findLeast", "(II)V"⟩
abbrev cX11_takeJoins : ByteArray := prog_13_method_22_code
def yX11_takeJoins : MethodName := ⟨RX11, "takeJoins", "()V"⟩
abbrev cX11_costOf : ByteArray := prog_13_method_23_code
def yX11_costOf : MethodName := ⟨RX11, "costOf", "(I)I"⟩
abbrev cX11_putByte : ByteArray := prog_13_method_24_code
def yX11_putByte : MethodName := ⟨RX11, "putByte", "(I)V"⟩
abbrev cX11_pack : ByteArray := prog_13_method_25_code
def yX11_pack : MethodName := ⟨RX11, "pack", "(I)I"⟩
abbrev cX11_code : ByteArray := prog_13_method_26_code
def yX11_code : MethodName := ⟨RX11, "code", "(II)I"⟩
abbrev cX11_bytes : ByteArray := prog_13_method_27_code
def yX11_bytes : MethodName := ⟨RX11, "bytes", "(I)I"⟩
abbrev cX11_wants : ByteArray := prog_13_method_28_code
def yX11_wants : MethodName := ⟨RX11, "wants", "(I)I"⟩
abbrev cX11_push : ByteArray := prog_13_method_29_code
def yX11_push : MethodName := ⟨RX11, "push", "(I)V"⟩
abbrev cX11_pop : ByteArray := prog_13_method_30_code
def yX11_pop : MethodName := ⟨RX11, "pop", "()I"⟩
abbrev cX11_worked : ByteArray := prog_13_method_31_code
def yX11_worked : MethodName := ⟨RX11, "worked", "(III)I"⟩
abbrev cX11_does : ByteArray := prog_13_method_32_code
def yX11_does : MethodName := ⟨RX11, "does", "(I)I"⟩
abbrev cX11_runs : ByteArray := prog_13_method_33_code
def yX11_runs : MethodName := ⟨RX11, "runs", "(II)I"⟩
abbrev cX11_run : ByteArray := prog_13_method_34_code
def yX11_run : MethodName := ⟨RX11, "run", "(IZI)I"⟩
abbrev cX11_ran : ByteArray := prog_13_method_35_code
def yX11_ran : MethodName := ⟨RX11, "ran", "(I)I"⟩
abbrev cX11_had : ByteArray := prog_13_method_36_code
def yX11_had : MethodName := ⟨RX11, "had", "(II)I"⟩
abbrev cX11_cost : ByteArray := prog_13_method_37_code
def yX11_cost : MethodName := ⟨RX11, "cost", "(Z)I"⟩
abbrev cX11_putFound : ByteArray := prog_13_method_38_code
def yX11_putFound : MethodName := ⟨RX11, "putFound", "(I)V"⟩
abbrev cX11_findRows : ByteArray := prog_13_method_39_code
def yX11_findRows : MethodName := ⟨RX11, "findRows", "()V"⟩
abbrev cX11_tryRow : ByteArray := prog_13_method_40_code
def yX11_tryRow : MethodName := ⟨RX11, "tryRow", "(II)V"⟩
abbrev cX11_tryNow : ByteArray := prog_13_method_41_code
def yX11_tryNow : MethodName := ⟨RX11, "tryNow", "(II)V"⟩
abbrev cX11_choose : ByteArray := prog_13_method_42_code
def yX11_choose : MethodName := ⟨RX11, "choose", "(IZ)I"⟩
abbrev cX11_chosen : ByteArray := prog_13_method_43_code
def yX11_chosen : MethodName := ⟨RX11, "chosen", "(II)I"⟩
abbrev cX11_take : ByteArray := prog_13_method_44_code
def yX11_take : MethodName := ⟨RX11, "take", "()I"⟩
abbrev cX11_feed : ByteArray := prog_13_method_45_code
def yX11_feed : MethodName := ⟨RX11, "feed", "(II)I"⟩
abbrev cX11_readOrder : ByteArray := prog_13_method_46_code
def yX11_readOrder : MethodName := ⟨RX11, "readOrder", "(I)Z"⟩
abbrev cX11_readAll : ByteArray := prog_13_method_47_code
def yX11_readAll : MethodName := ⟨RX11, "readAll", "()Z"⟩
abbrev cX11_read : ByteArray := prog_13_method_48_code
def yX11_read : MethodName := ⟨RX11, "read", "()I"⟩
abbrev cX11_count : ByteArray := prog_13_method_49_code
def yX11_count : MethodName := ⟨RX11, "count", "(I)I"⟩
abbrev cX11_image : ByteArray := prog_13_method_50_code
def yX11_image : MethodName := ⟨RX11, "image", "(I)Z"⟩
abbrev cX11_again : ByteArray := prog_13_method_51_code
def yX11_again : MethodName := ⟨RX11, "again", "(I)Z"⟩
def RJ9 : String := "java/lang/Math"
def TJ9 : u_T := fun k => match k with
  | _ => ("", "", "", false)
def tyJ9 : Nat → FieldType := fun k => match k with
  | _ => .int
theorem nmJ9 : ∀ a, a < 0 → ∀ b, b < 0 → a ≠ b → (TJ9 a).2.1 ≠ (TJ9 b).2.1 := by decide +kernel
theorem tyJ9_ok : ∀ k, k < 0 → parseFieldDescriptor (TJ9 k).2.2.1 = some (tyJ9 k) := by decide +kernel
abbrev cJ9_max_7cf53 : ByteArray := prog_14_method_65_code
def yJ9_max_7cf53 : MethodName := ⟨RJ9, "max", "(II)I"⟩
def RJ10 : String := "java/lang/System"
def TJ10 : u_T := fun k => match k with
  | _ => ("", "", "", false)
def tyJ10 : Nat → FieldType := fun k => match k with
  | _ => .int
theorem nmJ10 : ∀ a, a < 0 → ∀ b, b < 0 → a ≠ b → (TJ10 a).2.1 ≠ (TJ10 b).2.1 := by decide +kernel
theorem tyJ10_ok : ∀ k, k < 0 → parseFieldDescriptor (TJ10 k).2.2.1 = some (tyJ10 k) := by decide +kernel
def RJ7 : String := "java/util/Arrays"
def TJ7 : u_T := fun k => match k with
  | _ => ("", "", "", false)
def tyJ7 : Nat → FieldType := fun k => match k with
  | _ => .int
theorem nmJ7 : ∀ a, a < 0 → ∀ b, b < 0 → a ≠ b → (TJ7 a).2.1 ≠ (TJ7 b).2.1 := by decide +kernel
theorem tyJ7_ok : ∀ k, k < 0 → parseFieldDescriptor (TJ7 k).2.2.1 = some (tyJ7 k) := by decide +kernel
abbrev cJ7_fill_53178 : ByteArray := prog_16_method_103_code
def yJ7_fill_53178 : MethodName := ⟨RJ7, "fill", "([II)V"⟩
def RL : String := "OrdersMadeOneLaw"
abbrev cL_law : ByteArray := code
def yL_law : MethodName := ⟨RL, "law", "([I)Z"⟩
end
section
/-! the abstract machine: a method's run over a heap of numbered cells, each with its shape, its ints and its pointers -/
abbrev MI : Type := MethodName × ByteArray × Nat × Option FieldType
abbrev ASh : Type := Nat → Nat × Nat
abbrev AIn : Type := Nat → Nat → Int32
abbrev APt : Type := Nat → Nat → Option Nat
abbrev APo : Type := Option Int32 → ASh → AIn → APt → Prop
def am_tb : List Cond := lw_tbl.filter goodWord
theorem am_in {w : Cond} (i : Nat) (h : tables_1[i]? = some w) (hg : goodWord w = true) : w ∈ am_tb := List.mem_filter.mpr ⟨List.mem_append_right _ (List.mem_of_getElem? h), hg⟩
theorem am_inP {w : Cond} (i : Nat) (h : (k2_sels lw_privs)[i]? = some w) (hg : goodWord w = true) : w ∈ am_tb := List.mem_filter.mpr ⟨List.mem_append_left _ (List.mem_of_getElem? h), hg⟩
theorem am_good : ∀ w ∈ am_tb, (w.onTables && w.keeps) = true ∨ ∃ ty, w = .arrayClass ty := fun _ h => good_of_word (List.mem_filter.mp h).2
theorem am_goodIn {a b : Cond} (h : b ∈ am_tb) : GoodIn (a :: am_tb) (b :: am_tb) := fun w hw => by
  rcases List.mem_cons.mp hw with rfl | hw
  · exact ⟨List.mem_cons_of_mem _ h, am_good _ h⟩
  · exact ⟨List.mem_cons_of_mem _ hw, am_good _ hw⟩
def am_cl : List vw_C := [(RX0, TX0, 15), (RX2, TX2, 9), (RX3, TX3, 5), (RX5, TX5, 2), (RX6, TX6, 9), (RX7, TX7, 8), (RX8, TX8, 3), (RX9, TX9, 3), (RX10, TX10, 4), (RX11, TX11, 48)]
def am_ty (ci : Nat) : Nat → FieldType := match ci with
  | 0 => tyX0 | 1 => tyX2 | 2 => tyX3 | 3 => tyX5 | 4 => tyX6 | 5 => tyX7 | 6 => tyX8 | 7 => tyX9 | 8 => tyX10 | _ => tyX11
def am_tys (t : Nat → ClassId) : List (ClassId × FieldType) := [(t 0, .int), (t 1, .boolean), (t 2, .object RX3), (t 3, .object RX7)]
def am_isR (t : FieldType) : Bool := match t with
  | .object _ => true
  | .array _ => true
  | _ => false
def cv (ad : Nat → Nat) (v : Value) : Value := match v with
  | .ref k => .ref (ad k)
  | w => w
def am_rf (ad : Nat → Nat) (q : Option Nat) : Value := match q with
  | none => .null
  | some k => .ref (ad k)
def am_vr (q : Option Nat) : Value := match q with
  | none => .null
  | some k => .ref k
theorem cv_vr (ad : Nat → Nat) (q : Option Nat) : cv ad (am_vr q) = am_rf ad q := by cases q <;> rfl
def am_ov (ci : Nat) (ad : Nat → Nat) (Ik : Nat → Int32) (Pk : Nat → Option Nat) : Nat → Value := fun j => if am_isR (am_ty ci j) = true then am_rf ad (Pk j) else .int (Ik j)
def am_at (D : va_G) (t : Nat → ClassId) (ad : Nat → Nat) (q : Nat × Nat) (Ik : Nat → Int32) (Pk : Nat → Option Nat) (a : Nat) (H : Heap) : Prop := match q.1 with
  | 0 => True
  | 1 => ∃ r : vw_C, am_cl[q.2]? = some r ∧ t_OB a (D.1 q.2) r.2.2 (D.2 q.2) H (am_ov q.2 ad Ik Pk)
  | 2 => H[a]? = some (arrV (t 0) q.2 (fun j => .int (Ik j)))
  | 3 => H[a]? = some (arrV (t 1) q.2 (fun j => .int (Ik j)))
  | 4 => H[a]? = some (arrV (t 2) q.2 (fun j => am_rf ad (Pk j)))
  | 5 => H[a]? = some (arrV (t 3) q.2 (fun j => am_rf ad (Pk j)))
  | _ => False
def am_W (D : va_G) (t : Nat → ClassId) (A : Nat → Prop) (ad : Nat → Nat) (sh : ASh) (I : AIn) (P : APt) (H : Heap) : Prop :=
  (∀ k, (sh k).1 ≠ 0 → A (ad k)) ∧ (∀ i j, (sh i).1 ≠ 0 → (sh j).1 ≠ 0 → ad i = ad j → i = j) ∧ (∀ k j q, (sh k).1 ≠ 0 → P k j = some q → (sh q).1 ≠ 0) ∧ ∀ k, am_at D t ad (sh k) (I k) (P k) (ad k) H
def am_sn (i : Nat) : String := match i with
  | 0 => "WANTS" | 1 => "LEAVES" | 2 => "LEAST_ARGUMENT" | _ => "MOST_ARGUMENT"
def am_st (i : Nat) : Nat → Int32 := fun j => match i with
  | 0 => ([0, 2, 2, 2, 1, 2, 1, 0, 1, 0, 1, 2, 1, 0, 0, 0] : List Int32).getD j 0
  | 1 => ([1, 1, 1, 1, 2, 2, 0, 1, 0, 0, 0, 1, 0, 0, 0, 0] : List Int32).getD j 0
  | 2 => ([-128, 0, 0, 0, 0, 0, 0, 0, 0, 0, 0, 0, 0, 0, 0, 0] : List Int32).getD j 0
  | _ => ([127, 0, 0, 0, 0, 0, 0, 7, 7, 39, 39, 0, 0, 0, 0, 7] : List Int32).getD j 0
def am_ne : List (String × Nat × MethodName × String) := [(RX10, 22, yX9_init, RX10), (RX10, 29, yX0_init, RX10), (RX2, 11, yX3_init, RX10), (RX7, 17, yX5_init, RX10), (RX7, 24, yX2_init, RX10), (RX7, 31, yX6_init, RX10), (RX7, 41, yX8_init, RX10), (RX7, 46, yX3_init, RX10)]
def am_N (D : va_G) (t : Nat → ClassId) (A : Nat → Prop) (U : State) (H : Heap) : Prop :=
  va_K D am_cl (am_tys t) U ∧ (va_AO RX3 U ∧ va_AO RX7 U) ∧ (∀ q ∈ am_ne, va_Nw (.methodLinkNest q.1 q.2.1 q.2.2.1 q.2.2.2) U) ∧ ∀ i, i < 4 → ∃ a, va_Z RX1 (am_sn i) "[I" (.ref a) A U H ∧ va_T .int a 16 (fun j => .int (am_st i j)) A U H
theorem am_N.moved {D : va_G} {t : Nat → ClassId} {A : Nat → Prop} {u U : State} {H H1 : Heap} (h : am_N D t A u H) (hW : u.WarmedH U.vm) (hq : ∀ a : Nat, a < H.size → ¬ A a → H1[a]? = H[a]?) : am_N D t A U H1 := by
  obtain ⟨h1, ⟨h2, h3⟩, h4, h5⟩ := h
  refine ⟨va_K.moved hW.alike h1, ⟨h2.moved hW.alike, h3.moved hW.alike⟩, fun q hq2 => va_Nw.warmM hW (h4 q hq2), fun i hi => ?_⟩
  obtain ⟨a, g1, g2⟩ := h5 i hi
  exact ⟨a, (g1.moved hW.alike).kept hq, (g2.moved hW.alike).kept hq⟩
theorem am_N.same {D : va_G} {t : Nat → ClassId} {A : Nat → Prop} {u U : State} {H : Heap} (h : am_N D t A u H) (e : u.vm = U.vm) : am_N D t A U H := by
  have hA : u.vm.Alike U.vm := by rw [← e]; exact Vm.Alike.refl _
  obtain ⟨h1, ⟨h2, h3⟩, h4, h5⟩ := h
  refine ⟨va_K.moved hA h1, ⟨h2.moved hA, h3.moved hA⟩, fun q hq2 => va_Nw.same rfl e (h4 q hq2), fun i hi => ?_⟩
  obtain ⟨a, g1, g2⟩ := h5 i hi
  exact ⟨a, g1.moved hA, g2.moved hA⟩
def am_ok (sh : ASh) (v : Value) : Prop := match v with
  | .int _ => True
  | .null => True
  | .ref k => (sh k).1 ≠ 0
  | _ => False
def am_L (ad : Nat → Nat) (ls : Array Slot) (n : Nat) (lv : List (Option Value)) : Prop := lv.length = n ∧ ls.size = n ∧ lv_wf ls ∧ ∀ (i : Nat) (v : Value), lv[i]? = some (some v) → ls[i]? = some (.val (cv ad v))
def am_C (mi : MI) (fr lo mc ms : Nat) (D : va_G) (t : Nat → ClassId) (A : Nat → Prop) (p : Program) (R : Room) (s : State) (m : MethodId) (args : Array Value) (meth : Method) (c : Code) : Prop :=
  p.tables.exec = Jvm.exec ∧ c.code = mi.2.1 ∧ c.maxLocals = mi.2.2.1 ∧ meth.sig.returnType = mi.2.2.2 ∧ s.vm.findClass mi.1.cls = some m.cls ∧ (∀ w ∈ am_tb, w.before args s = true) ∧ meth.locks = false ∧ meth.name = mi.1.name ∧ (fr ≤ R.frames ∧ lo ≤ R.locals ∧ mc ≤ R.cells ∧ ms ≤ R.slots) ∧ am_N D t A s s.heap ∧ ∀ q, s.heap.size ≤ q → A q
def am_E (sh0 : ASh) (ad0 : Nat → Nat) (sh : ASh) (ad : Nat → Nat) : Prop := ∀ k, (sh0 k).1 ≠ 0 → (sh k).1 ≠ 0 ∧ ad k = ad0 k
def am_X (D : va_G) (t : Nat → ClassId) (A : Nat → Prop) (sh0 : ASh) (ad0 ad : Nat → Nat) (H0 H : Heap) (locs : List Loc) (ls : Array Slot) (n : Nat) (lv : List (Option Value)) (st : List Value) (sh : ASh) (I : AIn) (P : APt) : Prop :=
  am_W D t A ad sh I P H ∧ am_E sh0 ad0 sh ad ∧ va_S A H0 H locs ∧ am_L ad ls n lv ∧ (∀ v ∈ st, am_ok sh v) ∧ ∀ (i : Nat) (v : Value), lv[i]? = some (some v) → am_ok sh v
def am_Q (D : va_G) (t : Nat → ClassId) (A : Nat → Prop) (ad0 : Nat → Nat) (sh0 : ASh) (post : APo) : Array Value → State → Outcome → State → Prop := fun _ st oc u =>
  (∃ (r : Option Int32) (ad : Nat → Nat) (sh : ASh) (I : AIn) (P : APt), oc = .returned (r.map Value.int) ∧ post r sh I P ∧ am_E sh0 ad0 sh ad ∧ am_W D t A ad sh I P u.heap) ∧ va_F A st u
/-- the run of a method from pc on, with room, cells and slots still to spend, comes to its end with post -/
def am_R (mi : MI) (post : APo) (fr lo c0 s0 pc : Nat) (lv : List (Option Value)) (st : List Value) (sh : ASh) (I : AIn) (P : APt) : Prop :=
  ∀ (l : Launch) (p : Program) (e : Env) (R : Room) (s : State) (m : MethodId) (args : Array Value) (below : List Frame) (meth : Method) (c : Code) (D : va_G) (t : Nat → ClassId) (A : Nat → Prop) (sh0 : ASh) (ad0 ad : Nat → Nat) (mc ms : Nat) (H : Heap) (locs : List Loc) (cells slots : Nat) (ls : Array Slot),
    am_C mi fr lo mc ms D t A p R s m args meth c → cells + c0 = mc → slots + s0 = ms → am_X D t A sh0 ad0 ad s.heap H locs ls mi.2.2.1 lv st sh I P →
    W p l e R s m args below meth c H locs cells slots (MQ below (am_Q D t A ad0 sh0 post) args s mc ms A) (F0 m pc ls (st.map (cv ad)))
theorem am_okc {sh : ASh} {v : Value} {st : List Value} (h : am_ok sh v) (h2 : ∀ w ∈ st, am_ok sh w) : ∀ w ∈ v :: st, am_ok sh w := fun w hw => by
  rcases List.mem_cons.mp hw with rfl | hw
  · exact h
  · exact h2 w hw
theorem am_okt {sh : ASh} {v : Value} {st : List Value} (h : ∀ w ∈ v :: st, am_ok sh w) : ∀ w ∈ st, am_ok sh w := fun w hw => h w (List.mem_cons_of_mem _ hw)
theorem am_okh {sh : ASh} {v : Value} {st : List Value} (h : ∀ w ∈ v :: st, am_ok sh w) : am_ok sh v := h v List.mem_cons_self
theorem am_cat {sh : ASh} {v : Value} (h : am_ok sh v) : v.category = 1 := by cases v <;> first | rfl | exact h.elim
theorem am_catc {sh : ASh} {v : Value} (ad : Nat → Nat) (h : am_ok sh v) : (cv ad v).category = 1 := by cases v <;> first | rfl | exact h.elim
section AMR
variable {mi : MI} {post : APo} {fr lo c0 s0 pc : Nat} {lv : List (Option Value)} {st : List Value} {sh : ASh} {I : AIn} {P : APt}
theorem am_pure {st' : List Value} {pc' : Nat} (hk : am_R mi post fr lo c0 s0 pc' lv st' sh I P)
    (hok : (∀ v ∈ st, am_ok sh v) → (∀ (i : Nat) (v : Value), lv[i]? = some (some v) → am_ok sh v) → ∀ v ∈ st', am_ok sh v)
    (hW : ∀ {l : Launch} {p : Program} {e : Env} {R : Room} {s : State} {m : MethodId} {args : Array Value} {below : List Frame} {meth : Method} {c : Code} {H : Heap} {locs : List Loc} {cells slots : Nat} {Q : State → Prop} {ad : Nat → Nat} {ls : Array Slot}, p.tables.exec = Jvm.exec → c.code = mi.2.1 → (∀ (i : Nat) (v : Value), lv[i]? = some (some v) → ls[i]? = some (.val (cv ad v))) → (∀ v ∈ st, am_ok sh v) →
      W p l e R s m args below meth c H locs cells slots Q (F0 m pc' ls (st'.map (cv ad))) → W p l e R s m args below meth c H locs cells slots Q (F0 m pc ls (st.map (cv ad)))) : am_R mi post fr lo c0 s0 pc lv st sh I P := by
  intro l p e R s m args below meth c D t A sh0 ad0 ad mc ms H locs cells slots ls C hc hs X
  obtain ⟨x1, x2, x3, x4, x5, x6⟩ := X
  exact hW C.1 C.2.1 x4.2.2.2 x5 (hk l p e R s m args below meth c D t A sh0 ad0 ad mc ms H locs cells slots ls C hc hs ⟨x1, x2, x3, x4, hok x5 x6, x6⟩)
theorem am_two {st' : List Value} {pc1 pc2 : Nat} {B : Prop} (h1 : B → am_R mi post fr lo c0 s0 pc1 lv st' sh I P) (h2 : ¬ B → am_R mi post fr lo c0 s0 pc2 lv st' sh I P)
    (hok : (∀ v ∈ st, am_ok sh v) → ∀ v ∈ st', am_ok sh v)
    (hW : ∀ {l : Launch} {p : Program} {e : Env} {R : Room} {s : State} {m : MethodId} {args : Array Value} {below : List Frame} {meth : Method} {c : Code} {H : Heap} {locs : List Loc} {cells slots : Nat} {Q : State → Prop} {ad : Nat → Nat} {ls : Array Slot}, p.tables.exec = Jvm.exec → c.code = mi.2.1 →
      (B → W p l e R s m args below meth c H locs cells slots Q (F0 m pc1 ls (st'.map (cv ad)))) → (¬ B → W p l e R s m args below meth c H locs cells slots Q (F0 m pc2 ls (st'.map (cv ad)))) → W p l e R s m args below meth c H locs cells slots Q (F0 m pc ls (st.map (cv ad)))) : am_R mi post fr lo c0 s0 pc lv st sh I P := by
  intro l p e R s m args below meth c D t A sh0 ad0 ad mc ms H locs cells slots ls C hc hs X
  obtain ⟨x1, x2, x3, x4, x5, x6⟩ := X
  exact hW C.1 C.2.1 (fun b => h1 b l p e R s m args below meth c D t A sh0 ad0 ad mc ms H locs cells slots ls C hc hs ⟨x1, x2, x3, x4, hok x5, x6⟩) (fun b => h2 b l p e R s m args below meth c D t A sh0 ad0 ad mc ms H locs cells slots ls C hc hs ⟨x1, x2, x3, x4, hok x5, x6⟩)
theorem r_iconst {n : Int} {v : Int32} (d : decode mi.2.1 pc = .ok (.iconst n, 1)) (hv : Int32.ofInt n = v) (k : am_R mi post fr lo c0 s0 (pc + 1) lv (.int v :: st) sh I P) : am_R mi post fr lo c0 s0 pc lv st sh I P :=
  am_pure k (fun h _ => am_okc trivial h) (fun hx hb _ _ kk => lv_iconst hx hb d hv kk)
theorem r_bipush {n : Int} {v : Int32} (d : decode mi.2.1 pc = .ok (.bipush n, 2)) (hv : (Int8.ofInt n).toInt32 = v) (k : am_R mi post fr lo c0 s0 (pc + 2) lv (.int v :: st) sh I P) : am_R mi post fr lo c0 s0 pc lv st sh I P :=
  am_pure k (fun h _ => am_okc trivial h) (fun hx hb _ _ kk => lv_bipush hx hb d hv kk)
theorem r_sipush {n : Int} {v : Int32} (d : decode mi.2.1 pc = .ok (.sipush n, 3)) (hv : (Int16.ofInt n).toInt32 = v) (k : am_R mi post fr lo c0 s0 (pc + 3) lv (.int v :: st) sh I P) : am_R mi post fr lo c0 s0 pc lv st sh I P :=
  am_pure k (fun h _ => am_okc trivial h) (fun hx hb _ _ kk => lv_sipush hx hb d hv kk)
theorem r_null (d : decode mi.2.1 pc = .ok (.aconst_null, 1)) (k : am_R mi post fr lo c0 s0 (pc + 1) lv (.null :: st) sh I P) : am_R mi post fr lo c0 s0 pc lv st sh I P :=
  am_pure k (fun h _ => am_okc trivial h) (fun hx hb _ _ kk => lv_null hx hb d kk)
theorem r_iload_n {j : Fin 4} {x : Int32} (d : decode mi.2.1 pc = .ok (.iload_n j, 1)) (h : lv[(j : Nat)]? = some (some (.int x))) (k : am_R mi post fr lo c0 s0 (pc + 1) lv (.int x :: st) sh I P) : am_R mi post fr lo c0 s0 pc lv st sh I P :=
  am_pure k (fun h _ => am_okc trivial h) (fun hx hb hl _ kk => lv_iload_n hx hb d rfl (hl _ _ h) kk)
theorem r_iload {j : Nat} {x : Int32} (d : decode mi.2.1 pc = .ok (.iload j, 2)) (h : lv[j]? = some (some (.int x))) (k : am_R mi post fr lo c0 s0 (pc + 2) lv (.int x :: st) sh I P) : am_R mi post fr lo c0 s0 pc lv st sh I P :=
  am_pure k (fun h _ => am_okc trivial h) (fun hx hb hl _ kk => lv_iload hx hb d (hl _ _ h) kk)
theorem r_aload_n {j : Fin 4} {x : Nat} (d : decode mi.2.1 pc = .ok (.aload_n j, 1)) (h : lv[(j : Nat)]? = some (some (.ref x))) (k : am_R mi post fr lo c0 s0 (pc + 1) lv (.ref x :: st) sh I P) : am_R mi post fr lo c0 s0 pc lv st sh I P :=
  am_pure k (fun h2 h3 => am_okc (h3 _ _ h) h2) (fun hx hb hl _ kk => lv_aload_n hx hb d rfl (hl _ _ h) kk)
theorem r_aload {j : Nat} {x : Nat} (d : decode mi.2.1 pc = .ok (.aload j, 2)) (h : lv[j]? = some (some (.ref x))) (k : am_R mi post fr lo c0 s0 (pc + 2) lv (.ref x :: st) sh I P) : am_R mi post fr lo c0 s0 pc lv st sh I P :=
  am_pure k (fun h2 h3 => am_okc (h3 _ _ h) h2) (fun hx hb hl _ kk => lv_aload hx hb d (hl _ _ h) kk)
theorem r_aload_nN {j : Fin 4} (d : decode mi.2.1 pc = .ok (.aload_n j, 1)) (h : lv[(j : Nat)]? = some (some .null)) (k : am_R mi post fr lo c0 s0 (pc + 1) lv (.null :: st) sh I P) : am_R mi post fr lo c0 s0 pc lv st sh I P :=
  am_pure k (fun h2 _ => am_okc trivial h2) (fun hx hb hl _ kk => lv_aload_nN hx hb d rfl (hl _ _ h) kk)
theorem r_iadd {x y : Int32} (d : decode mi.2.1 pc = .ok (.iadd, 1)) (k : am_R mi post fr lo c0 s0 (pc + 1) lv (.int (x + y) :: st) sh I P) : am_R mi post fr lo c0 s0 pc lv (.int y :: .int x :: st) sh I P :=
  am_pure k (fun h _ => am_okc trivial (am_okt (am_okt h))) (fun hx hb _ _ kk => lv_iadd hx hb d kk)
theorem r_isub {x y : Int32} (d : decode mi.2.1 pc = .ok (.isub, 1)) (k : am_R mi post fr lo c0 s0 (pc + 1) lv (.int (x - y) :: st) sh I P) : am_R mi post fr lo c0 s0 pc lv (.int y :: .int x :: st) sh I P :=
  am_pure k (fun h _ => am_okc trivial (am_okt (am_okt h))) (fun hx hb _ _ kk => lv_isub hx hb d kk)
theorem r_imul {x y : Int32} (d : decode mi.2.1 pc = .ok (.imul, 1)) (k : am_R mi post fr lo c0 s0 (pc + 1) lv (.int (x * y) :: st) sh I P) : am_R mi post fr lo c0 s0 pc lv (.int y :: .int x :: st) sh I P :=
  am_pure k (fun h _ => am_okc trivial (am_okt (am_okt h))) (fun hx hb _ _ kk => lv_imul hx hb d kk)
theorem r_idiv {x y : Int32} (d : decode mi.2.1 pc = .ok (.idiv, 1)) (hy : ¬ y = 0) (k : am_R mi post fr lo c0 s0 (pc + 1) lv (.int (x / y) :: st) sh I P) : am_R mi post fr lo c0 s0 pc lv (.int y :: .int x :: st) sh I P :=
  am_pure k (fun h _ => am_okc trivial (am_okt (am_okt h))) (fun hx hb _ _ kk => lv_idiv hx hb d hy kk)
theorem r_irem {x y : Int32} (d : decode mi.2.1 pc = .ok (.irem, 1)) (hy : ¬ y = 0) (k : am_R mi post fr lo c0 s0 (pc + 1) lv (.int (x - x / y * y) :: st) sh I P) : am_R mi post fr lo c0 s0 pc lv (.int y :: .int x :: st) sh I P :=
  am_pure k (fun h _ => am_okc trivial (am_okt (am_okt h))) (fun hx hb _ _ kk => lv_irem hx hb d hy kk)
theorem r_iand {x y : Int32} (d : decode mi.2.1 pc = .ok (.iand, 1)) (k : am_R mi post fr lo c0 s0 (pc + 1) lv (.int (x &&& y) :: st) sh I P) : am_R mi post fr lo c0 s0 pc lv (.int y :: .int x :: st) sh I P :=
  am_pure k (fun h _ => am_okc trivial (am_okt (am_okt h))) (fun hx hb _ _ kk => lv_iand hx hb d kk)
theorem r_ior {x y : Int32} (d : decode mi.2.1 pc = .ok (.ior, 1)) (k : am_R mi post fr lo c0 s0 (pc + 1) lv (.int (x ||| y) :: st) sh I P) : am_R mi post fr lo c0 s0 pc lv (.int y :: .int x :: st) sh I P :=
  am_pure k (fun h _ => am_okc trivial (am_okt (am_okt h))) (fun hx hb _ _ kk => lv_ior hx hb d kk)
theorem r_ishl {x y : Int32} (d : decode mi.2.1 pc = .ok (.ishl, 1)) (k : am_R mi post fr lo c0 s0 (pc + 1) lv (.int (x <<< (y &&& 31)) :: st) sh I P) : am_R mi post fr lo c0 s0 pc lv (.int y :: .int x :: st) sh I P :=
  am_pure k (fun h _ => am_okc trivial (am_okt (am_okt h))) (fun hx hb _ _ kk => lv_ishl hx hb d kk)
theorem r_ishr {x y : Int32} (d : decode mi.2.1 pc = .ok (.ishr, 1)) (k : am_R mi post fr lo c0 s0 (pc + 1) lv (.int (x >>> (y &&& 31)) :: st) sh I P) : am_R mi post fr lo c0 s0 pc lv (.int y :: .int x :: st) sh I P :=
  am_pure k (fun h _ => am_okc trivial (am_okt (am_okt h))) (fun hx hb _ _ kk => lv_ishr hx hb d kk)
theorem r_iushr {x y : Int32} (d : decode mi.2.1 pc = .ok (.iushr, 1)) (k : am_R mi post fr lo c0 s0 (pc + 1) lv (.int ((x.toUInt32 >>> (y.toUInt32 &&& Int32.toUInt32 31)).toInt32) :: st) sh I P) : am_R mi post fr lo c0 s0 pc lv (.int y :: .int x :: st) sh I P :=
  am_pure k (fun h _ => am_okc trivial (am_okt (am_okt h))) (fun hx hb _ _ kk => lv_iushr hx hb d rfl kk)
theorem r_i2b {x : Int32} (d : decode mi.2.1 pc = .ok (.i2b, 1)) (k : am_R mi post fr lo c0 s0 (pc + 1) lv (.int x.toInt8.toInt32 :: st) sh I P) : am_R mi post fr lo c0 s0 pc lv (.int x :: st) sh I P :=
  am_pure k (fun h _ => am_okc trivial (am_okt h)) (fun hx hb _ _ kk => lv_i2b hx hb d rfl kk)
theorem r_dup {v : Value} (d : decode mi.2.1 pc = .ok (.dup, 1)) (k : am_R mi post fr lo c0 s0 (pc + 1) lv (v :: v :: st) sh I P) : am_R mi post fr lo c0 s0 pc lv (v :: st) sh I P :=
  am_pure k (fun h _ => am_okc (am_okh h) h) (fun {_ _ _ _ _ _ _ _ _ _ _ _ _ _ _ ad _} hx hb _ h kk => lv_dup hx hb d (am_catc ad (am_okh h)) kk)
theorem r_dup2 {v w : Value} (d : decode mi.2.1 pc = .ok (.dup2, 1)) (k : am_R mi post fr lo c0 s0 (pc + 1) lv (v :: w :: v :: w :: st) sh I P) : am_R mi post fr lo c0 s0 pc lv (v :: w :: st) sh I P :=
  am_pure k (fun h _ => am_okc (am_okh h) (am_okc (am_okh (am_okt h)) h)) (fun {_ _ _ _ _ _ _ _ _ _ _ _ _ _ _ ad _} hx hb _ h kk => lv_dup2_11 hx hb d (am_catc ad (am_okh h)) (am_catc ad (am_okh (am_okt h))) kk)
theorem r_pop {v : Value} (d : decode mi.2.1 pc = .ok (.pop, 1)) (k : am_R mi post fr lo c0 s0 (pc + 1) lv st sh I P) : am_R mi post fr lo c0 s0 pc lv (v :: st) sh I P :=
  am_pure k (fun h _ => am_okt h) (fun {_ _ _ _ _ _ _ _ _ _ _ _ _ _ _ ad _} hx hb _ h kk => lv_pop hx hb d (am_catc ad (am_okh h)) kk)
theorem r_goto {off : Int} (tgt : Nat) (d : decode mi.2.1 pc = .ok (.goto off, 3)) (ht : (pc : Int) + off = (tgt : Int)) (k : am_R mi post fr lo c0 s0 tgt lv st sh I P) : am_R mi post fr lo c0 s0 pc lv st sh I P :=
  am_pure k (fun h _ => h) (fun hx hb _ _ kk => lv_goto hx hb d ht kk)
theorem r_ifnull {x : Nat} {off : Int} (d : decode mi.2.1 pc = .ok (.ifnull off, 3)) (k : am_R mi post fr lo c0 s0 (pc + 3) lv st sh I P) : am_R mi post fr lo c0 s0 pc lv (.ref x :: st) sh I P :=
  am_pure k (fun h _ => am_okt h) (fun hx hb _ _ kk => lv_ifnull hx hb d kk)
theorem r_ifnullN {off : Int} (tgt : Nat) (d : decode mi.2.1 pc = .ok (.ifnull off, 3)) (ht : (pc : Int) + off = (tgt : Int)) (k : am_R mi post fr lo c0 s0 tgt lv st sh I P) : am_R mi post fr lo c0 s0 pc lv (.null :: st) sh I P :=
  am_pure k (fun h _ => am_okt h) (fun hx hb _ _ kk => lv_ifnullN hx hb d ht kk)
theorem r_ifnonnull {x : Nat} {off : Int} (tgt : Nat) (d : decode mi.2.1 pc = .ok (.ifnonnull off, 3)) (ht : (pc : Int) + off = (tgt : Int)) (k : am_R mi post fr lo c0 s0 tgt lv st sh I P) : am_R mi post fr lo c0 s0 pc lv (.ref x :: st) sh I P :=
  am_pure k (fun h _ => am_okt h) (fun hx hb _ _ kk => lv_ifnonnull hx hb d ht kk)
theorem r_ifnonnullN {off : Int} (d : decode mi.2.1 pc = .ok (.ifnonnull off, 3)) (k : am_R mi post fr lo c0 s0 (pc + 3) lv st sh I P) : am_R mi post fr lo c0 s0 pc lv (.null :: st) sh I P :=
  am_pure k (fun h _ => am_okt h) (fun hx hb _ _ kk => lv_ifnonnullN hx hb d kk)
theorem r_if_eq {x : Int32} {off : Int} (tgt : Nat) (d : decode mi.2.1 pc = .ok (.ifCond .eq off, 3)) (ht : (pc : Int) + off = (tgt : Int)) (k1 : x = 0 → am_R mi post fr lo c0 s0 tgt lv st sh I P) (k2 : ¬ x = 0 → am_R mi post fr lo c0 s0 (pc + 3) lv st sh I P) : am_R mi post fr lo c0 s0 pc lv (.int x :: st) sh I P :=
  am_two k1 k2 (fun h => am_okt h) (fun hx hb a b => lv_if_eq hx hb d ht a b)
theorem r_if_ne {x : Int32} {off : Int} (tgt : Nat) (d : decode mi.2.1 pc = .ok (.ifCond .ne off, 3)) (ht : (pc : Int) + off = (tgt : Int)) (k1 : ¬ x = 0 → am_R mi post fr lo c0 s0 tgt lv st sh I P) (k2 : x = 0 → am_R mi post fr lo c0 s0 (pc + 3) lv st sh I P) : am_R mi post fr lo c0 s0 pc lv (.int x :: st) sh I P :=
  am_two k2 k1 (fun h => am_okt h) (fun hx hb a b => lv_if_ne hx hb d ht b a)
theorem r_if_lt {x : Int32} {off : Int} (tgt : Nat) (d : decode mi.2.1 pc = .ok (.ifCond .lt off, 3)) (ht : (pc : Int) + off = (tgt : Int)) (k1 : x < 0 → am_R mi post fr lo c0 s0 tgt lv st sh I P) (k2 : ¬ x < 0 → am_R mi post fr lo c0 s0 (pc + 3) lv st sh I P) : am_R mi post fr lo c0 s0 pc lv (.int x :: st) sh I P :=
  am_two k1 k2 (fun h => am_okt h) (fun hx hb a b => lv_if_lt hx hb d ht a b)
theorem r_if_ge {x : Int32} {off : Int} (tgt : Nat) (d : decode mi.2.1 pc = .ok (.ifCond .ge off, 3)) (ht : (pc : Int) + off = (tgt : Int)) (k1 : 0 ≤ x → am_R mi post fr lo c0 s0 tgt lv st sh I P) (k2 : ¬ 0 ≤ x → am_R mi post fr lo c0 s0 (pc + 3) lv st sh I P) : am_R mi post fr lo c0 s0 pc lv (.int x :: st) sh I P :=
  am_two k1 k2 (fun h => am_okt h) (fun hx hb a b => lv_if_ge hx hb d ht a b)
theorem r_if_gt {x : Int32} {off : Int} (tgt : Nat) (d : decode mi.2.1 pc = .ok (.ifCond .gt off, 3)) (ht : (pc : Int) + off = (tgt : Int)) (k1 : 0 < x → am_R mi post fr lo c0 s0 tgt lv st sh I P) (k2 : ¬ 0 < x → am_R mi post fr lo c0 s0 (pc + 3) lv st sh I P) : am_R mi post fr lo c0 s0 pc lv (.int x :: st) sh I P :=
  am_two k1 k2 (fun h => am_okt h) (fun hx hb a b => lv_if_gt hx hb d ht a b)
theorem r_if_le {x : Int32} {off : Int} (tgt : Nat) (d : decode mi.2.1 pc = .ok (.ifCond .le off, 3)) (ht : (pc : Int) + off = (tgt : Int)) (k1 : x ≤ 0 → am_R mi post fr lo c0 s0 tgt lv st sh I P) (k2 : ¬ x ≤ 0 → am_R mi post fr lo c0 s0 (pc + 3) lv st sh I P) : am_R mi post fr lo c0 s0 pc lv (.int x :: st) sh I P :=
  am_two k1 k2 (fun h => am_okt h) (fun hx hb a b => lv_if_le hx hb d ht a b)
theorem r_icmp_eq {x y : Int32} {off : Int} (tgt : Nat) (d : decode mi.2.1 pc = .ok (.if_icmp .eq off, 3)) (ht : (pc : Int) + off = (tgt : Int)) (k1 : x = y → am_R mi post fr lo c0 s0 tgt lv st sh I P) (k2 : ¬ x = y → am_R mi post fr lo c0 s0 (pc + 3) lv st sh I P) : am_R mi post fr lo c0 s0 pc lv (.int y :: .int x :: st) sh I P :=
  am_two k1 k2 (fun h => am_okt (am_okt h)) (fun hx hb a b => lv_icmp_eq hx hb d ht a b)
theorem r_icmp_lt {x y : Int32} {off : Int} (tgt : Nat) (d : decode mi.2.1 pc = .ok (.if_icmp .lt off, 3)) (ht : (pc : Int) + off = (tgt : Int)) (k1 : x < y → am_R mi post fr lo c0 s0 tgt lv st sh I P) (k2 : ¬ x < y → am_R mi post fr lo c0 s0 (pc + 3) lv st sh I P) : am_R mi post fr lo c0 s0 pc lv (.int y :: .int x :: st) sh I P :=
  am_two k1 k2 (fun h => am_okt (am_okt h)) (fun hx hb a b => lv_icmp_lt hx hb d ht a b)
theorem r_icmp_ge {x y : Int32} {off : Int} (tgt : Nat) (d : decode mi.2.1 pc = .ok (.if_icmp .ge off, 3)) (ht : (pc : Int) + off = (tgt : Int)) (k1 : y ≤ x → am_R mi post fr lo c0 s0 tgt lv st sh I P) (k2 : ¬ y ≤ x → am_R mi post fr lo c0 s0 (pc + 3) lv st sh I P) : am_R mi post fr lo c0 s0 pc lv (.int y :: .int x :: st) sh I P :=
  am_two k1 k2 (fun h => am_okt (am_okt h)) (fun hx hb a b => lv_icmp_ge hx hb d ht a b)
theorem r_icmp_gt {x y : Int32} {off : Int} (tgt : Nat) (d : decode mi.2.1 pc = .ok (.if_icmp .gt off, 3)) (ht : (pc : Int) + off = (tgt : Int)) (k1 : y < x → am_R mi post fr lo c0 s0 tgt lv st sh I P) (k2 : ¬ y < x → am_R mi post fr lo c0 s0 (pc + 3) lv st sh I P) : am_R mi post fr lo c0 s0 pc lv (.int y :: .int x :: st) sh I P :=
  am_two k1 k2 (fun h => am_okt (am_okt h)) (fun hx hb a b => lv_icmp_gt hx hb d ht a b)
theorem r_icmp_le {x y : Int32} {off : Int} (tgt : Nat) (d : decode mi.2.1 pc = .ok (.if_icmp .le off, 3)) (ht : (pc : Int) + off = (tgt : Int)) (k1 : x ≤ y → am_R mi post fr lo c0 s0 tgt lv st sh I P) (k2 : ¬ x ≤ y → am_R mi post fr lo c0 s0 (pc + 3) lv st sh I P) : am_R mi post fr lo c0 s0 pc lv (.int y :: .int x :: st) sh I P :=
  am_two k1 k2 (fun h => am_okt (am_okt h)) (fun hx hb a b => lv_icmp_le hx hb d ht a b)
theorem r_icmp_ne {x y : Int32} {off : Int} (tgt : Nat) (d : decode mi.2.1 pc = .ok (.if_icmp .ne off, 3)) (ht : (pc : Int) + off = (tgt : Int)) (k1 : ¬ x = y → am_R mi post fr lo c0 s0 tgt lv st sh I P) (k2 : x = y → am_R mi post fr lo c0 s0 (pc + 3) lv st sh I P) : am_R mi post fr lo c0 s0 pc lv (.int y :: .int x :: st) sh I P :=
  am_two k2 k1 (fun h => am_okt (am_okt h)) (fun hx hb a b => lv_icmp_ne hx hb d ht b a)
theorem r_tabIn {dflt lw hi : Int} {offs : Array Int} {len : Nat} {x : Int32} {off : Int} (tgt : Nat) (d : decode mi.2.1 pc = .ok (.tableswitch dflt lw hi offs, len)) (h1 : ¬ x.toInt < lw) (h2 : ¬ hi < x.toInt) (ho : offs[(x.toInt - lw).toNat]? = some off) (ht : (pc : Int) + off = (tgt : Int)) (k : am_R mi post fr lo c0 s0 tgt lv st sh I P) : am_R mi post fr lo c0 s0 pc lv (.int x :: st) sh I P :=
  am_pure k (fun h _ => am_okt h) (fun hx hb _ _ kk => lv_tableIn hx hb d h1 h2 ho ht kk)
theorem r_tabOut {dflt lw hi : Int} {offs : Array Int} {len : Nat} {x : Int32} (tgt : Nat) (d : decode mi.2.1 pc = .ok (.tableswitch dflt lw hi offs, len)) (h : x.toInt < lw ∨ hi < x.toInt) (ht : (pc : Int) + dflt = (tgt : Int)) (k : am_R mi post fr lo c0 s0 tgt lv st sh I P) : am_R mi post fr lo c0 s0 pc lv (.int x :: st) sh I P :=
  am_pure k (fun h _ => am_okt h) (fun hx hb _ _ kk => lv_tableOut hx hb d h ht kk)
/-! stores into the slots of a frame -/
def am_ll (ad : Nat → Nat) (lv : List (Option Value)) : List (Nat × Value) := (List.range lv.length).filterMap (fun i => match lv[i]? with
  | some (some v) => some (i, cv ad v)
  | _ => none)
theorem am_ll_mem {ad : Nat → Nat} {lv : List (Option Value)} {i : Nat} {v : Value} (h : lv[i]? = some (some v)) : (i, cv ad v) ∈ am_ll ad lv := by
  have hl := (List.getElem?_eq_some_iff.mp h).1
  refine List.mem_filterMap.mpr ⟨i, List.mem_range.mpr hl, ?_⟩
  rw [h]
theorem am_L.has {ad : Nat → Nat} {ls : Array Slot} {n : Nat} {lv : List (Option Value)} (h : am_L ad ls n lv) : lv_has ls n (am_ll ad lv) := by
  obtain ⟨h1, h2, h3, h4⟩ := h
  refine ⟨h2, h3, fun q hq => ?_⟩
  obtain ⟨i, -, hi⟩ := List.mem_filterMap.mp hq
  cases hv : lv[i]? with
  | none => rw [hv] at hi; cases hi
  | some o =>
    cases o with
    | none => rw [hv] at hi; cases hi
    | some v =>
      rw [hv] at hi
      cases hi
      exact h4 i v hv
theorem am_L.set {ad : Nat → Nat} {ls ls' : Array Slot} {n i : Nat} {lv : List (Option Value)} {v : Value} {sh : ASh} (h : am_L ad ls n lv) (hok : ∀ (i : Nat) (v : Value), lv[i]? = some (some v) → am_ok sh v) (hi : i < n)
    (h2 : lv_has ls' n ((i, cv ad v) :: (am_ll ad lv).filter (fun q => !(q.1 == i) && !(q.1 + 1 == i && q.2.category == 2)))) : am_L ad ls' n (lv.set i (some v)) := by
  obtain ⟨g1, g2, g3⟩ := h2
  refine ⟨by rw [List.length_set]; exact h.1, g1, g2, fun j w hj => ?_⟩
  by_cases hji : j = i
  · subst hji
    rw [List.getElem?_set_self (by rw [h.1]; exact hi)] at hj
    cases hj
    exact g3 _ List.mem_cons_self
  · rw [List.getElem?_set_ne (Ne.symm hji)] at hj
    refine g3 (j, cv ad w) (List.mem_cons_of_mem _ (List.mem_filter.mpr ⟨am_ll_mem hj, ?_⟩))
    simp [hji, am_catc ad (hok j w hj)]
theorem am_ok_set {lv : List (Option Value)} {sh : ASh} {i : Nat} {v : Value} (hok : ∀ (i : Nat) (v : Value), lv[i]? = some (some v) → am_ok sh v) (hv : am_ok sh v) : ∀ (j : Nat) (w : Value), (lv.set i (some v))[j]? = some (some w) → am_ok sh w := fun j w hj => by
  by_cases hji : j = i
  · subst hji
    have hl : j < lv.length := by
      have := (List.getElem?_eq_some_iff.mp hj).1
      rw [List.length_set] at this
      exact this
    rw [List.getElem?_set_self hl] at hj
    cases hj
    exact hv
  · rw [List.getElem?_set_ne (Ne.symm hji)] at hj
    exact hok j w hj
theorem am_lvlt {ad : Nat → Nat} {ls : Array Slot} {n i : Nat} {lv : List (Option Value)} (h : am_L ad ls n lv) (hi : i < lv.length) : i < n := by rw [← h.1]; exact hi
theorem r_istore_n {j : Fin 4} {x : Int32} (d : decode mi.2.1 pc = .ok (.istore_n j, 1)) (hj : (j : Nat) < lv.length) (k : am_R mi post fr lo c0 s0 (pc + 1) (lv.set (j : Nat) (some (.int x))) st sh I P) : am_R mi post fr lo c0 s0 pc lv (.int x :: st) sh I P := by
  intro l p e R s m args below meth c D t A sh0 ad0 ad mc ms H locs cells slots ls C hc hs X
  obtain ⟨x1, x2, x3, x4, x5, x6⟩ := X
  exact lv_istore_n C.1 C.2.1 d rfl x4.has (am_lvlt x4 hj) rfl (fun ls' hl' => k l p e R s m args below meth c D t A sh0 ad0 ad mc ms H locs cells slots ls' C hc hs ⟨x1, x2, x3, x4.set (v := .int x) x6 (am_lvlt x4 hj) hl', am_okt x5, am_ok_set x6 (am_okh x5)⟩)
theorem r_istore {j : Nat} {x : Int32} (d : decode mi.2.1 pc = .ok (.istore j, 2)) (hj : j < lv.length) (k : am_R mi post fr lo c0 s0 (pc + 2) (lv.set j (some (.int x))) st sh I P) : am_R mi post fr lo c0 s0 pc lv (.int x :: st) sh I P := by
  intro l p e R s m args below meth c D t A sh0 ad0 ad mc ms H locs cells slots ls C hc hs X
  obtain ⟨x1, x2, x3, x4, x5, x6⟩ := X
  exact lv_istore C.1 C.2.1 d x4.has (am_lvlt x4 hj) rfl (fun ls' hl' => k l p e R s m args below meth c D t A sh0 ad0 ad mc ms H locs cells slots ls' C hc hs ⟨x1, x2, x3, x4.set (v := .int x) x6 (am_lvlt x4 hj) hl', am_okt x5, am_ok_set x6 (am_okh x5)⟩)
theorem r_astore_n {j : Fin 4} {x : Nat} (d : decode mi.2.1 pc = .ok (.astore_n j, 1)) (hj : (j : Nat) < lv.length) (k : am_R mi post fr lo c0 s0 (pc + 1) (lv.set (j : Nat) (some (.ref x))) st sh I P) : am_R mi post fr lo c0 s0 pc lv (.ref x :: st) sh I P := by
  intro l p e R s m args below meth c D t A sh0 ad0 ad mc ms H locs cells slots ls C hc hs X
  obtain ⟨x1, x2, x3, x4, x5, x6⟩ := X
  exact lv_astore_n C.1 C.2.1 d rfl x4.has (am_lvlt x4 hj) rfl (fun ls' hl' => k l p e R s m args below meth c D t A sh0 ad0 ad mc ms H locs cells slots ls' C hc hs ⟨x1, x2, x3, x4.set (v := .ref x) x6 (am_lvlt x4 hj) hl', am_okt x5, am_ok_set x6 (am_okh x5)⟩)
theorem r_astore {j : Nat} {x : Nat} (d : decode mi.2.1 pc = .ok (.astore j, 2)) (hj : j < lv.length) (k : am_R mi post fr lo c0 s0 (pc + 2) (lv.set j (some (.ref x))) st sh I P) : am_R mi post fr lo c0 s0 pc lv (.ref x :: st) sh I P := by
  intro l p e R s m args below meth c D t A sh0 ad0 ad mc ms H locs cells slots ls C hc hs X
  obtain ⟨x1, x2, x3, x4, x5, x6⟩ := X
  exact lv_astore C.1 C.2.1 d x4.has (am_lvlt x4 hj) rfl (fun ls' hl' => k l p e R s m args below meth c D t A sh0 ad0 ad mc ms H locs cells slots ls' C hc hs ⟨x1, x2, x3, x4.set (v := .ref x) x6 (am_lvlt x4 hj) hl', am_okt x5, am_ok_set x6 (am_okh x5)⟩)
theorem r_iinc {j : Nat} {n : Int} {x v : Int32} (d : decode mi.2.1 pc = .ok (.iinc j n, 3)) (h : lv[j]? = some (some (.int x))) (hv : x + Int32.ofInt n = v) (k : am_R mi post fr lo c0 s0 (pc + 3) (lv.set j (some (.int v))) st sh I P) : am_R mi post fr lo c0 s0 pc lv st sh I P := by
  intro l p e R s m args below meth c D t A sh0 ad0 ad mc ms H locs cells slots ls C hc hs X
  obtain ⟨x1, x2, x3, x4, x5, x6⟩ := X
  have hj : j < lv.length := (List.getElem?_eq_some_iff.mp h).1
  obtain ⟨q, hq⟩ := List.getElem?_of_mem (am_ll_mem (ad := ad) h)
  exact lv_iinc C.1 C.2.1 d x4.has hq hv (am_lvlt x4 hj) rfl (fun ls' hl' => k l p e R s m args below meth c D t A sh0 ad0 ad mc ms H locs cells slots ls' C hc hs ⟨x1, x2, x3, x4.set (v := .int v) x6 (am_lvlt x4 hj) hl', x5, am_ok_set x6 trivial⟩)
end AMR
end
