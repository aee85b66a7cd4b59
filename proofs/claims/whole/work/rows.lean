section
-- ===== PART A: goes FIRST, ahead of the names: the tables' words, and 'selects' of the private methods out of them =====
/-- a private method of a class that the tables say can be made, by its rows of tables_1 -/
def lw_okq (q : MethodName × Nat) : Prop := (q.1.cls ≠ "java/lang/invoke/MethodHandle" ∧ q.1.cls ≠ "java/lang/invoke/VarHandle") ∧ Cond.instantiable q.1.cls q.2 ∈ tables_1 ∧ Cond.privateMethod q.1 ∈ tables_1 ∧ Cond.instanceMethod q.1 ∈ tables_1
theorem lw_p0 : lw_okq (⟨"OrdersMadeOne$Ways", "begin", "(LOrdersMadeOne$Program;LOrdersMadeOne$Rows;I)V"⟩, 3) := ⟨⟨by decide +kernel, by decide +kernel⟩, List.mem_of_getElem? (i := 226) (by decide +kernel), List.mem_of_getElem? (i := 424) (by decide +kernel), List.mem_of_getElem? (i := 425) (by decide +kernel)⟩
theorem lw_p1 : lw_okq (⟨"OrdersMadeOne$Packed", "beginCode", "(III)V"⟩, 9) := ⟨⟨by decide +kernel, by decide +kernel⟩, List.mem_of_getElem? (i := 50) (by decide +kernel), List.mem_of_getElem? (i := 451) (by decide +kernel), List.mem_of_getElem? (i := 452) (by decide +kernel)⟩
theorem lw_p2 : lw_okq (⟨"OrdersMadeOne$Packed", "write", "(I)V"⟩, 9) := ⟨⟨by decide +kernel, by decide +kernel⟩, List.mem_of_getElem? (i := 50) (by decide +kernel), List.mem_of_getElem? (i := 455) (by decide +kernel), List.mem_of_getElem? (i := 456) (by decide +kernel)⟩
theorem lw_p3 : lw_okq (⟨"OrdersMadeOne$Run", "clear", "()V"⟩, 9) := ⟨⟨by decide +kernel, by decide +kernel⟩, List.mem_of_getElem? (i := 128) (by decide +kernel), List.mem_of_getElem? (i := 484) (by decide +kernel), List.mem_of_getElem? (i := 485) (by decide +kernel)⟩
theorem lw_p4 : lw_okq (⟨"OrdersMadeOne$Run", "endAhead", "(LOrdersMadeOne$Program;I)I"⟩, 9) := ⟨⟨by decide +kernel, by decide +kernel⟩, List.mem_of_getElem? (i := 128) (by decide +kernel), List.mem_of_getElem? (i := 490) (by decide +kernel), List.mem_of_getElem? (i := 491) (by decide +kernel)⟩
theorem lw_p5 : lw_okq (⟨"OrdersMadeOne$Run", "tryOrder", "(LOrdersMadeOne$Program;)I"⟩, 9) := ⟨⟨by decide +kernel, by decide +kernel⟩, List.mem_of_getElem? (i := 128) (by decide +kernel), List.mem_of_getElem? (i := 499) (by decide +kernel), List.mem_of_getElem? (i := 500) (by decide +kernel)⟩
theorem lw_p6 : lw_okq (⟨"OrdersMadeOne$Run", "carryOut", "(II)V"⟩, 9) := ⟨⟨by decide +kernel, by decide +kernel⟩, List.mem_of_getElem? (i := 128) (by decide +kernel), List.mem_of_getElem? (i := 507) (by decide +kernel), List.mem_of_getElem? (i := 508) (by decide +kernel)⟩
theorem lw_p7 : lw_okq (⟨"OrdersMadeOne$Run", "lay", "(I)V"⟩, 9) := ⟨⟨by decide +kernel, by decide +kernel⟩, List.mem_of_getElem? (i := 128) (by decide +kernel), List.mem_of_getElem? (i := 511) (by decide +kernel), List.mem_of_getElem? (i := 512) (by decide +kernel)⟩
theorem lw_p8 : lw_okq (⟨"OrdersMadeOne$Run", "layOneForTwo", "(I)V"⟩, 9) := ⟨⟨by decide +kernel, by decide +kernel⟩, List.mem_of_getElem? (i := 128) (by decide +kernel), List.mem_of_getElem? (i := 515) (by decide +kernel), List.mem_of_getElem? (i := 516) (by decide +kernel)⟩
theorem lw_p9 : lw_okq (⟨"OrdersMadeOne$Run", "lift", "()I"⟩, 9) := ⟨⟨by decide +kernel, by decide +kernel⟩, List.mem_of_getElem? (i := 128) (by decide +kernel), List.mem_of_getElem? (i := 519) (by decide +kernel), List.mem_of_getElem? (i := 520) (by decide +kernel)⟩
theorem lw_p10 : lw_okq (⟨"OrdersMadeOne$Run", "turnUpperTwo", "()V"⟩, 9) := ⟨⟨by decide +kernel, by decide +kernel⟩, List.mem_of_getElem? (i := 128) (by decide +kernel), List.mem_of_getElem? (i := 523) (by decide +kernel), List.mem_of_getElem? (i := 524) (by decide +kernel)⟩
theorem lw_p11 : lw_okq (⟨"OrdersMadeOne$Chooser", "gather", "(LOrdersMadeOne$State;Z)I"⟩, 15) := ⟨⟨by decide +kernel, by decide +kernel⟩, List.mem_of_getElem? (i := 244) (by decide +kernel), List.mem_of_getElem? (i := 550) (by decide +kernel), List.mem_of_getElem? (i := 551) (by decide +kernel)⟩
theorem lw_p12 : lw_okq (⟨"OrdersMadeOne$Chooser", "gatherAt", "(LOrdersMadeOne$Program;IIZ)V"⟩, 15) := ⟨⟨by decide +kernel, by decide +kernel⟩, List.mem_of_getElem? (i := 244) (by decide +kernel), List.mem_of_getElem? (i := 555) (by decide +kernel), List.mem_of_getElem? (i := 556) (by decide +kernel)⟩
theorem lw_p13 : lw_okq (⟨"OrdersMadeOne$Chooser", "addStand", "(IIII)V"⟩, 15) := ⟨⟨by decide +kernel, by decide +kernel⟩, List.mem_of_getElem? (i := 244) (by decide +kernel), List.mem_of_getElem? (i := 561) (by decide +kernel), List.mem_of_getElem? (i := 562) (by decide +kernel)⟩
theorem lw_p14 : lw_okq (⟨"OrdersMadeOne$Chooser", "findRow", "(I)I"⟩, 15) := ⟨⟨by decide +kernel, by decide +kernel⟩, List.mem_of_getElem? (i := 244) (by decide +kernel), List.mem_of_getElem? (i := 565) (by decide +kernel), List.mem_of_getElem? (i := 566) (by decide +kernel)⟩
theorem lw_p15 : lw_okq (⟨"OrdersMadeOne$Chooser", "chooseOne", "()V"⟩, 15) := ⟨⟨by decide +kernel, by decide +kernel⟩, List.mem_of_getElem? (i := 244) (by decide +kernel), List.mem_of_getElem? (i := 570) (by decide +kernel), List.mem_of_getElem? (i := 571) (by decide +kernel)⟩
def lw_privs_1 : List (MethodName × Nat) := [(⟨"OrdersMadeOne$Ways", "begin", "(LOrdersMadeOne$Program;LOrdersMadeOne$Rows;I)V"⟩, 3), (⟨"OrdersMadeOne$Packed", "beginCode", "(III)V"⟩, 9), (⟨"OrdersMadeOne$Packed", "write", "(I)V"⟩, 9), (⟨"OrdersMadeOne$Run", "clear", "()V"⟩, 9), (⟨"OrdersMadeOne$Run", "endAhead", "(LOrdersMadeOne$Program;I)I"⟩, 9), (⟨"OrdersMadeOne$Run", "tryOrder", "(LOrdersMadeOne$Program;)I"⟩, 9), (⟨"OrdersMadeOne$Run", "carryOut", "(II)V"⟩, 9), (⟨"OrdersMadeOne$Run", "lay", "(I)V"⟩, 9), (⟨"OrdersMadeOne$Run", "layOneForTwo", "(I)V"⟩, 9), (⟨"OrdersMadeOne$Run", "lift", "()I"⟩, 9), (⟨"OrdersMadeOne$Run", "turnUpperTwo", "()V"⟩, 9), (⟨"OrdersMadeOne$Chooser", "gather", "(LOrdersMadeOne$State;Z)I"⟩, 15), (⟨"OrdersMadeOne$Chooser", "gatherAt", "(LOrdersMadeOne$Program;IIZ)V"⟩, 15), (⟨"OrdersMadeOne$Chooser", "addStand", "(IIII)V"⟩, 15), (⟨"OrdersMadeOne$Chooser", "findRow", "(I)I"⟩, 15), (⟨"OrdersMadeOne$Chooser", "chooseOne", "()V"⟩, 15)]
theorem lw_r1 : ∀ q ∈ lw_privs_1, lw_okq q := List.forall_mem_cons.mpr ⟨lw_p0, List.forall_mem_cons.mpr ⟨lw_p1, List.forall_mem_cons.mpr ⟨lw_p2, List.forall_mem_cons.mpr ⟨lw_p3, List.forall_mem_cons.mpr ⟨lw_p4, List.forall_mem_cons.mpr ⟨lw_p5, List.forall_mem_cons.mpr ⟨lw_p6, List.forall_mem_cons.mpr ⟨lw_p7, List.forall_mem_cons.mpr ⟨lw_p8, List.forall_mem_cons.mpr ⟨lw_p9, List.forall_mem_cons.mpr ⟨lw_p10, List.forall_mem_cons.mpr ⟨lw_p11, List.forall_mem_cons.mpr ⟨lw_p12, List.forall_mem_cons.mpr ⟨lw_p13, List.forall_mem_cons.mpr ⟨lw_p14, List.forall_mem_cons.mpr ⟨lw_p15, fun _ h => absurd h List.not_mem_nil⟩⟩⟩⟩⟩⟩⟩⟩⟩⟩⟩⟩⟩⟩⟩⟩
theorem lw_p16 : lw_okq (⟨"OrdersMadeOne$Chooser", "mostSaved", "(II)I"⟩, 15) := ⟨⟨by decide +kernel, by decide +kernel⟩, List.mem_of_getElem? (i := 244) (by decide +kernel), List.mem_of_getElem? (i := 574) (by decide +kernel), List.mem_of_getElem? (i := 575) (by decide +kernel)⟩
theorem lw_p17 : lw_okq (⟨"OrdersMadeOne$Chooser", "savedFrom", "(II)I"⟩, 15) := ⟨⟨by decide +kernel, by decide +kernel⟩, List.mem_of_getElem? (i := 244) (by decide +kernel), List.mem_of_getElem? (i := 578) (by decide +kernel), List.mem_of_getElem? (i := 579) (by decide +kernel)⟩
theorem lw_p18 : lw_okq (⟨"OrdersMadeOne$Chooser", "chooseTwo", "()V"⟩, 15) := ⟨⟨by decide +kernel, by decide +kernel⟩, List.mem_of_getElem? (i := 244) (by decide +kernel), List.mem_of_getElem? (i := 585) (by decide +kernel), List.mem_of_getElem? (i := 586) (by decide +kernel)⟩
theorem lw_p19 : lw_okq (⟨"OrdersMadeOne$Chooser", "tryTwo", "(II)V"⟩, 15) := ⟨⟨by decide +kernel, by decide +kernel⟩, List.mem_of_getElem? (i := 244) (by decide +kernel), List.mem_of_getElem? (i := 589) (by decide +kernel), List.mem_of_getElem? (i := 590) (by decide +kernel)⟩
theorem lw_p20 : lw_okq (⟨"OrdersMadeOne$Told", "readCode", "(LOrdersMadeOne$Program;LOrdersMadeOne$Rows;I)Z"⟩, 3) := ⟨⟨by decide +kernel, by decide +kernel⟩, List.mem_of_getElem? (i := 171) (by decide +kernel), List.mem_of_getElem? (i := 624) (by decide +kernel), List.mem_of_getElem? (i := 625) (by decide +kernel)⟩
theorem lw_p21 : lw_okq (⟨"OrdersMadeOne$Told", "readOrder", "(LOrdersMadeOne$Program;I)Z"⟩, 3) := ⟨⟨by decide +kernel, by decide +kernel⟩, List.mem_of_getElem? (i := 171) (by decide +kernel), List.mem_of_getElem? (i := 629) (by decide +kernel), List.mem_of_getElem? (i := 630) (by decide +kernel)⟩
theorem lw_p22 : lw_okq (⟨"OrdersMadeOneModel", "forget", "(I)V"⟩, 48) := ⟨⟨by decide +kernel, by decide +kernel⟩, List.mem_of_getElem? (i := 669) (by decide +kernel), List.mem_of_getElem? (i := 825) (by decide +kernel), List.mem_of_getElem? (i := 826) (by decide +kernel)⟩
theorem lw_p23 : lw_okq (⟨"OrdersMadeOneModel", "isProgram", "(I)Z"⟩, 48) := ⟨⟨by decide +kernel, by decide +kernel⟩, List.mem_of_getElem? (i := 669) (by decide +kernel), List.mem_of_getElem? (i := 833) (by decide +kernel), List.mem_of_getElem? (i := 834) (by decide +kernel)⟩
theorem lw_p24 : lw_okq (⟨"OrdersMadeOneModel", "isLed", "(II)Z"⟩, 48) := ⟨⟨by decide +kernel, by decide +kernel⟩, List.mem_of_getElem? (i := 669) (by decide +kernel), List.mem_of_getElem? (i := 854) (by decide +kernel), List.mem_of_getElem? (i := 855) (by decide +kernel)⟩
theorem lw_p25 : lw_okq (⟨"OrdersMadeOneModel", "takeJoins", "()V"⟩, 48) := ⟨⟨by decide +kernel, by decide +kernel⟩, List.mem_of_getElem? (i := 669) (by decide +kernel), List.mem_of_getElem? (i := 877) (by decide +kernel), List.mem_of_getElem? (i := 878) (by decide +kernel)⟩
theorem lw_p26 : lw_okq (⟨"OrdersMadeOneModel", "findLeast", "(II)V"⟩, 48) := ⟨⟨by decide +kernel, by decide +kernel⟩, List.mem_of_getElem? (i := 669) (by decide +kernel), List.mem_of_getElem? (i := 881) (by decide +kernel), List.mem_of_getElem? (i := 882) (by decide +kernel)⟩
theorem lw_p27 : lw_okq (⟨"OrdersMadeOneModel", "readLed", "(I)V"⟩, 48) := ⟨⟨by decide +kernel, by decide +kernel⟩, List.mem_of_getElem? (i := 669) (by decide +kernel), List.mem_of_getElem? (i := 885) (by decide +kernel), List.mem_of_getElem? (i := 886) (by decide +kernel)⟩
theorem lw_p28 : lw_okq (⟨"OrdersMadeOneModel", "stands", "(III)Z"⟩, 48) := ⟨⟨by decide +kernel, by decide +kernel⟩, List.mem_of_getElem? (i := 669) (by decide +kernel), List.mem_of_getElem? (i := 889) (by decide +kernel), List.mem_of_getElem? (i := 890) (by decide +kernel)⟩
theorem lw_p29 : lw_okq (⟨"OrdersMadeOneModel", "putByte", "(I)V"⟩, 48) := ⟨⟨by decide +kernel, by decide +kernel⟩, List.mem_of_getElem? (i := 669) (by decide +kernel), List.mem_of_getElem? (i := 893) (by decide +kernel), List.mem_of_getElem? (i := 894) (by decide +kernel)⟩
theorem lw_p30 : lw_okq (⟨"OrdersMadeOneModel", "runs", "(II)I"⟩, 48) := ⟨⟨by decide +kernel, by decide +kernel⟩, List.mem_of_getElem? (i := 669) (by decide +kernel), List.mem_of_getElem? (i := 909) (by decide +kernel), List.mem_of_getElem? (i := 910) (by decide +kernel)⟩
theorem lw_p31 : lw_okq (⟨"OrdersMadeOneModel", "does", "(I)I"⟩, 48) := ⟨⟨by decide +kernel, by decide +kernel⟩, List.mem_of_getElem? (i := 669) (by decide +kernel), List.mem_of_getElem? (i := 916) (by decide +kernel), List.mem_of_getElem? (i := 917) (by decide +kernel)⟩
def lw_privs_2 : List (MethodName × Nat) := [(⟨"OrdersMadeOne$Chooser", "mostSaved", "(II)I"⟩, 15), (⟨"OrdersMadeOne$Chooser", "savedFrom", "(II)I"⟩, 15), (⟨"OrdersMadeOne$Chooser", "chooseTwo", "()V"⟩, 15), (⟨"OrdersMadeOne$Chooser", "tryTwo", "(II)V"⟩, 15), (⟨"OrdersMadeOne$Told", "readCode", "(LOrdersMadeOne$Program;LOrdersMadeOne$Rows;I)Z"⟩, 3), (⟨"OrdersMadeOne$Told", "readOrder", "(LOrdersMadeOne$Program;I)Z"⟩, 3), (⟨"OrdersMadeOneModel", "forget", "(I)V"⟩, 48), (⟨"OrdersMadeOneModel", "isProgram", "(I)Z"⟩, 48), (⟨"OrdersMadeOneModel", "isLed", "(II)Z"⟩, 48), (⟨"OrdersMadeOneModel", "takeJoins", "()V"⟩, 48), (⟨"OrdersMadeOneModel", "findLeast", "(II)V"⟩, 48), (⟨"OrdersMadeOneModel", "readLed", "(I)V"⟩, 48), (⟨"OrdersMadeOneModel", "stands", "(III)Z"⟩, 48), (⟨"OrdersMadeOneModel", "putByte", "(I)V"⟩, 48), (⟨"OrdersMadeOneModel", "runs", "(II)I"⟩, 48), (⟨"OrdersMadeOneModel", "does", "(I)I"⟩, 48)]
theorem lw_r2 : ∀ q ∈ lw_privs_2, lw_okq q := List.forall_mem_cons.mpr ⟨lw_p16, List.forall_mem_cons.mpr ⟨lw_p17, List.forall_mem_cons.mpr ⟨lw_p18, List.forall_mem_cons.mpr ⟨lw_p19, List.forall_mem_cons.mpr ⟨lw_p20, List.forall_mem_cons.mpr ⟨lw_p21, List.forall_mem_cons.mpr ⟨lw_p22, List.forall_mem_cons.mpr ⟨lw_p23, List.forall_mem_cons.mpr ⟨lw_p24, List.forall_mem_cons.mpr ⟨lw_p25, List.forall_mem_cons.mpr ⟨lw_p26, List.forall_mem_cons.mpr ⟨lw_p27, List.forall_mem_cons.mpr ⟨lw_p28, List.forall_mem_cons.mpr ⟨lw_p29, List.forall_mem_cons.mpr ⟨lw_p30, List.forall_mem_cons.mpr ⟨lw_p31, fun _ h => absurd h List.not_mem_nil⟩⟩⟩⟩⟩⟩⟩⟩⟩⟩⟩⟩⟩⟩⟩⟩
theorem lw_p32 : lw_okq (⟨"OrdersMadeOneModel", "push", "(I)V"⟩, 48) := ⟨⟨by decide +kernel, by decide +kernel⟩, List.mem_of_getElem? (i := 669) (by decide +kernel), List.mem_of_getElem? (i := 920) (by decide +kernel), List.mem_of_getElem? (i := 921) (by decide +kernel)⟩
theorem lw_p33 : lw_okq (⟨"OrdersMadeOneModel", "pop", "()I"⟩, 48) := ⟨⟨by decide +kernel, by decide +kernel⟩, List.mem_of_getElem? (i := 669) (by decide +kernel), List.mem_of_getElem? (i := 924) (by decide +kernel), List.mem_of_getElem? (i := 925) (by decide +kernel)⟩
theorem lw_p34 : lw_okq (⟨"OrdersMadeOneModel", "costOf", "(I)I"⟩, 48) := ⟨⟨by decide +kernel, by decide +kernel⟩, List.mem_of_getElem? (i := 669) (by decide +kernel), List.mem_of_getElem? (i := 943) (by decide +kernel), List.mem_of_getElem? (i := 944) (by decide +kernel)⟩
theorem lw_p35 : lw_okq (⟨"OrdersMadeOneModel", "findRows", "()V"⟩, 48) := ⟨⟨by decide +kernel, by decide +kernel⟩, List.mem_of_getElem? (i := 669) (by decide +kernel), List.mem_of_getElem? (i := 951) (by decide +kernel), List.mem_of_getElem? (i := 952) (by decide +kernel)⟩
theorem lw_p36 : lw_okq (⟨"OrdersMadeOneModel", "putFound", "(I)V"⟩, 48) := ⟨⟨by decide +kernel, by decide +kernel⟩, List.mem_of_getElem? (i := 669) (by decide +kernel), List.mem_of_getElem? (i := 955) (by decide +kernel), List.mem_of_getElem? (i := 956) (by decide +kernel)⟩
theorem lw_p37 : lw_okq (⟨"OrdersMadeOneModel", "tryRow", "(II)V"⟩, 48) := ⟨⟨by decide +kernel, by decide +kernel⟩, List.mem_of_getElem? (i := 669) (by decide +kernel), List.mem_of_getElem? (i := 959) (by decide +kernel), List.mem_of_getElem? (i := 960) (by decide +kernel)⟩
theorem lw_p38 : lw_okq (⟨"OrdersMadeOneModel", "tryNow", "(II)V"⟩, 48) := ⟨⟨by decide +kernel, by decide +kernel⟩, List.mem_of_getElem? (i := 669) (by decide +kernel), List.mem_of_getElem? (i := 963) (by decide +kernel), List.mem_of_getElem? (i := 964) (by decide +kernel)⟩
theorem lw_p39 : lw_okq (⟨"OrdersMadeOneModel", "readAll", "()Z"⟩, 48) := ⟨⟨by decide +kernel, by decide +kernel⟩, List.mem_of_getElem? (i := 669) (by decide +kernel), List.mem_of_getElem? (i := 983) (by decide +kernel), List.mem_of_getElem? (i := 984) (by decide +kernel)⟩
theorem lw_p40 : lw_okq (⟨"OrdersMadeOneModel", "readOrder", "(I)Z"⟩, 48) := ⟨⟨by decide +kernel, by decide +kernel⟩, List.mem_of_getElem? (i := 669) (by decide +kernel), List.mem_of_getElem? (i := 987) (by decide +kernel), List.mem_of_getElem? (i := 988) (by decide +kernel)⟩
theorem lw_p41 : lw_okq (⟨"OrdersMadeOneModel", "copy", "(II)V"⟩, 48) := ⟨⟨by decide +kernel, by decide +kernel⟩, List.mem_of_getElem? (i := 669) (by decide +kernel), List.mem_of_getElem? (i := 999) (by decide +kernel), List.mem_of_getElem? (i := 1000) (by decide +kernel)⟩
def lw_privs_3 : List (MethodName × Nat) := [(⟨"OrdersMadeOneModel", "push", "(I)V"⟩, 48), (⟨"OrdersMadeOneModel", "pop", "()I"⟩, 48), (⟨"OrdersMadeOneModel", "costOf", "(I)I"⟩, 48), (⟨"OrdersMadeOneModel", "findRows", "()V"⟩, 48), (⟨"OrdersMadeOneModel", "putFound", "(I)V"⟩, 48), (⟨"OrdersMadeOneModel", "tryRow", "(II)V"⟩, 48), (⟨"OrdersMadeOneModel", "tryNow", "(II)V"⟩, 48), (⟨"OrdersMadeOneModel", "readAll", "()Z"⟩, 48), (⟨"OrdersMadeOneModel", "readOrder", "(I)Z"⟩, 48), (⟨"OrdersMadeOneModel", "copy", "(II)V"⟩, 48)]
theorem lw_r3 : ∀ q ∈ lw_privs_3, lw_okq q := List.forall_mem_cons.mpr ⟨lw_p32, List.forall_mem_cons.mpr ⟨lw_p33, List.forall_mem_cons.mpr ⟨lw_p34, List.forall_mem_cons.mpr ⟨lw_p35, List.forall_mem_cons.mpr ⟨lw_p36, List.forall_mem_cons.mpr ⟨lw_p37, List.forall_mem_cons.mpr ⟨lw_p38, List.forall_mem_cons.mpr ⟨lw_p39, List.forall_mem_cons.mpr ⟨lw_p40, List.forall_mem_cons.mpr ⟨lw_p41, fun _ h => absurd h List.not_mem_nil⟩⟩⟩⟩⟩⟩⟩⟩⟩⟩
def lw_privs : List (MethodName × Nat) := lw_privs_1 ++ (lw_privs_2 ++ (lw_privs_3))
def lw_tbl : List Cond := k2_sels lw_privs ++ tables_1
theorem lw_privs_ok : ∀ q ∈ lw_privs, lw_okq q := by
  show ∀ q ∈ lw_privs_1 ++ (lw_privs_2 ++ (lw_privs_3)), lw_okq q
  exact List.forall_mem_append.mpr ⟨lw_r1, List.forall_mem_append.mpr ⟨lw_r2, lw_r3⟩⟩
end
section
def RX0 : String := "OrdersMadeOne$Chooser"
def TX0 : u_T := fun k => match k with
  | 0 => ("OrdersMadeOne$Chooser", "rowCount", "I", false)
  | 1 => ("OrdersMadeOne$Chooser", "rows", "[I", true)
  | 2 => ("OrdersMadeOne$Chooser", "lastStands", "[I", true)
  | 3 => ("OrdersMadeOne$Chooser", "savedAlone", "[I", true)
  | 4 => ("OrdersMadeOne$Chooser", "savedFromHere", "[I", true)
  | 5 => ("OrdersMadeOne$Chooser", "standCount", "I", false)
  | 6 => ("OrdersMadeOne$Chooser", "places", "[I", true)
  | 7 => ("OrdersMadeOne$Chooser", "ends", "[I", true)
  | 8 => ("OrdersMadeOne$Chooser", "saves", "[I", true)
  | 9 => ("OrdersMadeOne$Chooser", "standsAhead", "[I", true)
  | 10 => ("OrdersMadeOne$Chooser", "stepPlaces", "[I", true)
  | 11 => ("OrdersMadeOne$Chooser", "stepSaved", "[I", true)
  | 12 => ("OrdersMadeOne$Chooser", "saved", "I", false)
  | 13 => ("OrdersMadeOne$Chooser", "first", "I", false)
  | _ => ("OrdersMadeOne$Chooser", "second", "I", false)
def tyX0 : Nat → FieldType := fun k => match k with
  | 0 => .int
  | 1 => .array .int
  | 2 => .array .int
  | 3 => .array .int
  | 4 => .array .int
  | 5 => .int
  | 6 => .array .int
  | 7 => .array .int
  | 8 => .array .int
  | 9 => .array .int
  | 10 => .array .int
  | 11 => .array .int
  | 12 => .int
  | 13 => .int
  | _ => .int
theorem nmX0 : ∀ a, a < 15 → ∀ b, b < 15 → a ≠ b → (TX0 a).2.1 ≠ (TX0 b).2.1 := by decide +kernel
theorem tyX0_ok : ∀ k, k < 15 → parseFieldDescriptor (TX0 k).2.2.1 = some (tyX0 k) := by decide +kernel
abbrev cX0_init : ByteArray := prog_2_method_1_code
def yX0_init : MethodName := ⟨RX0, "<init>", "()V"⟩
abbrev cX0_search : ByteArray := prog_2_method_2_code
def yX0_search : MethodName := ⟨RX0, "search", "(LOrdersMadeOne$State;IZ)I"⟩
abbrev cX0_gather : ByteArray := prog_2_method_3_code
def yX0_gather : MethodName := ⟨RX0, "gather", "(LOrdersMadeOne$State;Z)I"⟩
abbrev cX0_gatherAt : ByteArray := prog_2_method_4_code
def yX0_gatherAt : MethodName := ⟨RX0, "gatherAt", "(LOrdersMadeOne$Program;IIZ)V"⟩
abbrev cX0_addStand : ByteArray := prog_2_method_5_code
def yX0_addStand : MethodName := ⟨RX0, "addStand", "(IIII)V"⟩
abbrev cX0_findRow : ByteArray := prog_2_method_6_code
def yX0_findRow : MethodName := ⟨RX0, "findRow", "(I)I"⟩
abbrev cX0_chooseOne : ByteArray := prog_2_method_7_code
def yX0_chooseOne : MethodName := ⟨RX0, "chooseOne", "()V"⟩
abbrev cX0_chooseTwo : ByteArray := prog_2_method_8_code
def yX0_chooseTwo : MethodName := ⟨RX0, "chooseTwo", "()V"⟩
abbrev cX0_tryTwo : ByteArray := prog_2_method_9_code
def yX0_tryTwo : MethodName := ⟨RX0, "tryTwo", "(II)V"⟩
abbrev cX0_mostSaved : ByteArray := prog_2_method_10_code
def yX0_mostSaved : MethodName := ⟨RX0, "mostSaved", "(II)I"⟩
abbrev cX0_savedFrom : ByteArray := prog_2_method_11_code
def yX0_savedFrom : MethodName := ⟨RX0, "savedFrom", "(II)I"⟩
def RX1 : String := "OrdersMadeOne$Kind"
def TX1 : u_T := fun k => match k with
  | _ => ("", "", "", false)
def tyX1 : Nat → FieldType := fun k => match k with
  | _ => .int
theorem nmX1 : ∀ a, a < 0 → ∀ b, b < 0 → a ≠ b → (TX1 a).2.1 ≠ (TX1 b).2.1 := by decide +kernel
theorem tyX1_ok : ∀ k, k < 0 → parseFieldDescriptor (TX1 k).2.2.1 = some (tyX1 k) := by decide +kernel
abbrev cX1_isOne : ByteArray := prog_3_method_2_code
def yX1_isOne : MethodName := ⟨RX1, "isOne", "(I)Z"⟩
abbrev cX1_hasArgument : ByteArray := prog_3_method_3_code
def yX1_hasArgument : MethodName := ⟨RX1, "hasArgument", "(I)Z"⟩
abbrev cX1_fits : ByteArray := prog_3_method_4_code
def yX1_fits : MethodName := ⟨RX1, "fits", "(II)Z"⟩
abbrev cX1_leads : ByteArray := prog_3_method_5_code
def yX1_leads : MethodName := ⟨RX1, "leads", "(I)Z"⟩
abbrev cX1_isLastAlone : ByteArray := prog_3_method_6_code
def yX1_isLastAlone : MethodName := ⟨RX1, "isLastAlone", "(I)Z"⟩
def RX2 : String := "OrdersMadeOne$Packed"
def TX2 : u_T := fun k => match k with
  | 0 => ("OrdersMadeOne$Packed", "there", "Z", false)
  | 1 => ("OrdersMadeOne$Packed", "program", "LOrdersMadeOne$Program;", true)
  | 2 => ("OrdersMadeOne$Packed", "codeCount", "I", false)
  | 3 => ("OrdersMadeOne$Packed", "numbers", "[I", true)
  | 4 => ("OrdersMadeOne$Packed", "places", "[I", true)
  | 5 => ("OrdersMadeOne$Packed", "lengths", "[I", true)
  | 6 => ("OrdersMadeOne$Packed", "byteCount", "I", false)
  | 7 => ("OrdersMadeOne$Packed", "written", "[I", true)
  | _ => ("OrdersMadeOne$Packed", "codesAt", "[I", true)
def tyX2 : Nat → FieldType := fun k => match k with
  | 0 => .boolean
  | 1 => .object "OrdersMadeOne$Program"
  | 2 => .int
  | 3 => .array .int
  | 4 => .array .int
  | 5 => .array .int
  | 6 => .int
  | 7 => .array .int
  | _ => .array .int
theorem nmX2 : ∀ a, a < 9 → ∀ b, b < 9 → a ≠ b → (TX2 a).2.1 ≠ (TX2 b).2.1 := by decide +kernel
theorem tyX2_ok : ∀ k, k < 9 → parseFieldDescriptor (TX2 k).2.2.1 = some (tyX2 k) := by decide +kernel
abbrev cX2_init : ByteArray := prog_4_method_1_code
def yX2_init : MethodName := ⟨RX2, "<init>", "()V"⟩
abbrev cX2_hasCode : ByteArray := prog_4_method_2_code
def yX2_hasCode : MethodName := ⟨RX2, "hasCode", "(I)Z"⟩
abbrev cX2_hasByte : ByteArray := prog_4_method_3_code
def yX2_hasByte : MethodName := ⟨RX2, "hasByte", "(I)Z"⟩
abbrev cX2_beginsAt : ByteArray := prog_4_method_4_code
def yX2_beginsAt : MethodName := ⟨RX2, "beginsAt", "(I)Z"⟩
abbrev cX2_make : ByteArray := prog_4_method_5_code
def yX2_make : MethodName := ⟨RX2, "make", "(LOrdersMadeOne$Program;LOrdersMadeOne$Ways;)V"⟩
abbrev cX2_beginCode : ByteArray := prog_4_method_6_code
def yX2_beginCode : MethodName := ⟨RX2, "beginCode", "(III)V"⟩
abbrev cX2_write : ByteArray := prog_4_method_7_code
def yX2_write : MethodName := ⟨RX2, "write", "(I)V"⟩
abbrev cX2_copyFrom : ByteArray := prog_4_method_8_code
def yX2_copyFrom : MethodName := ⟨RX2, "copyFrom", "(LOrdersMadeOne$Packed;)V"⟩
def RX3 : String := "OrdersMadeOne$Program"
def TX3 : u_T := fun k => match k with
  | 0 => ("OrdersMadeOne$Program", "size", "I", false)
  | 1 => ("OrdersMadeOne$Program", "kinds", "[I", true)
  | 2 => ("OrdersMadeOne$Program", "arguments", "[I", true)
  | 3 => ("OrdersMadeOne$Program", "times", "[I", true)
  | _ => ("OrdersMadeOne$Program", "leading", "[I", true)
def tyX3 : Nat → FieldType := fun k => match k with
  | 0 => .int
  | 1 => .array .int
  | 2 => .array .int
  | 3 => .array .int
  | _ => .array .int
theorem nmX3 : ∀ a, a < 5 → ∀ b, b < 5 → a ≠ b → (TX3 a).2.1 ≠ (TX3 b).2.1 := by decide +kernel
theorem tyX3_ok : ∀ k, k < 5 → parseFieldDescriptor (TX3 k).2.2.1 = some (tyX3 k) := by decide +kernel
abbrev cX3_init : ByteArray := prog_5_method_1_code
def yX3_init : MethodName := ⟨RX3, "<init>", "()V"⟩
abbrev cX3_clear : ByteArray := prog_5_method_2_code
def yX3_clear : MethodName := ⟨RX3, "clear", "()V"⟩
abbrev cX3_forgetRun : ByteArray := prog_5_method_3_code
def yX3_forgetRun : MethodName := ⟨RX3, "forgetRun", "()V"⟩
abbrev cX3_has : ByteArray := prog_5_method_4_code
def yX3_has : MethodName := ⟨RX3, "has", "(I)Z"⟩
abbrev cX3_isLedTo : ByteArray := prog_5_method_5_code
def yX3_isLedTo : MethodName := ⟨RX3, "isLedTo", "(I)Z"⟩
abbrev cX3_append : ByteArray := prog_5_method_6_code
def yX3_append : MethodName := ⟨RX3, "append", "(II)Z"⟩
abbrev cX3_replace : ByteArray := prog_5_method_7_code
def yX3_replace : MethodName := ⟨RX3, "replace", "(II)Z"⟩
abbrev cX3_reach : ByteArray := prog_5_method_8_code
def yX3_reach : MethodName := ⟨RX3, "reach", "(I)I"⟩
abbrev cX3_weight : ByteArray := prog_5_method_9_code
def yX3_weight : MethodName := ⟨RX3, "weight", "(IZ)I"⟩
abbrev cX3_copyFrom : ByteArray := prog_5_method_10_code
def yX3_copyFrom : MethodName := ⟨RX3, "copyFrom", "(LOrdersMadeOne$Program;)V"⟩
def RX4 : String := "OrdersMadeOne$Row"
def TX4 : u_T := fun k => match k with
  | _ => ("", "", "", false)
def tyX4 : Nat → FieldType := fun k => match k with
  | _ => .int
theorem nmX4 : ∀ a, a < 0 → ∀ b, b < 0 → a ≠ b → (TX4 a).2.1 ≠ (TX4 b).2.1 := by decide +kernel
theorem tyX4_ok : ∀ k, k < 0 → parseFieldDescriptor (TX4 k).2.2.1 = some (tyX4 k) := by decide +kernel
abbrev cX4_of : ByteArray := prog_6_method_2_code
def yX4_of : MethodName := ⟨RX4, "of", "(IIIII)I"⟩
abbrev cX4_with : ByteArray := prog_6_method_3_code
def yX4_with : MethodName := ⟨RX4, "with", "(III)I"⟩
abbrev cX4_kind : ByteArray := prog_6_method_4_code
def yX4_kind : MethodName := ⟨RX4, "kind", "(II)I"⟩
def RX5 : String := "OrdersMadeOne$Rows"
def TX5 : u_T := fun k => match k with
  | 0 => ("OrdersMadeOne$Rows", "size", "I", false)
  | _ => ("OrdersMadeOne$Rows", "rows", "[I", true)
def tyX5 : Nat → FieldType := fun k => match k with
  | 0 => .int
  | _ => .array .int
theorem nmX5 : ∀ a, a < 2 → ∀ b, b < 2 → a ≠ b → (TX5 a).2.1 ≠ (TX5 b).2.1 := by decide +kernel
theorem tyX5_ok : ∀ k, k < 2 → parseFieldDescriptor (TX5 k).2.2.1 = some (tyX5 k) := by decide +kernel
abbrev cX5_init : ByteArray := prog_7_method_1_code
def yX5_init : MethodName := ⟨RX5, "<init>", "()V"⟩
abbrev cX5_append : ByteArray := prog_7_method_2_code
def yX5_append : MethodName := ⟨RX5, "append", "(I)Z"⟩
abbrev cX5_indexOf : ByteArray := prog_7_method_3_code
def yX5_indexOf : MethodName := ⟨RX5, "indexOf", "(I)I"⟩
abbrev cX5_kind : ByteArray := prog_7_method_4_code
def yX5_kind : MethodName := ⟨RX5, "kind", "(II)I"⟩
abbrev cX5_copyFrom : ByteArray := prog_7_method_5_code
def yX5_copyFrom : MethodName := ⟨RX5, "copyFrom", "(LOrdersMadeOne$Rows;)V"⟩
def RX6 : String := "OrdersMadeOne$Run"
def TX6 : u_T := fun k => match k with
  | 0 => ("OrdersMadeOne$Run", "there", "Z", false)
  | 1 => ("OrdersMadeOne$Run", "done", "I", false)
  | 2 => ("OrdersMadeOne$Run", "begun", "I", false)
  | 3 => ("OrdersMadeOne$Run", "place", "I", false)
  | 4 => ("OrdersMadeOne$Run", "pileSize", "I", false)
  | 5 => ("OrdersMadeOne$Run", "pile", "[I", true)
  | 6 => ("OrdersMadeOne$Run", "outSize", "I", false)
  | 7 => ("OrdersMadeOne$Run", "out", "[I", true)
  | _ => ("OrdersMadeOne$Run", "registers", "[I", true)
def tyX6 : Nat → FieldType := fun k => match k with
  | 0 => .boolean
  | 1 => .int
  | 2 => .int
  | 3 => .int
  | 4 => .int
  | 5 => .array .int
  | 6 => .int
  | 7 => .array .int
  | _ => .array .int
theorem nmX6 : ∀ a, a < 9 → ∀ b, b < 9 → a ≠ b → (TX6 a).2.1 ≠ (TX6 b).2.1 := by decide +kernel
theorem tyX6_ok : ∀ k, k < 9 → parseFieldDescriptor (TX6 k).2.2.1 = some (tyX6 k) := by decide +kernel
abbrev cX6_init : ByteArray := prog_8_method_1_code
def yX6_init : MethodName := ⟨RX6, "<init>", "()V"⟩
abbrev cX6_follow : ByteArray := prog_8_method_2_code
def yX6_follow : MethodName := ⟨RX6, "follow", "(LOrdersMadeOne$Program;LOrdersMadeOne$Packed;I)I"⟩
abbrev cX6_clear : ByteArray := prog_8_method_3_code
def yX6_clear : MethodName := ⟨RX6, "clear", "()V"⟩
abbrev cX6_endAhead : ByteArray := prog_8_method_4_code
def yX6_endAhead : MethodName := ⟨RX6, "endAhead", "(LOrdersMadeOne$Program;I)I"⟩
abbrev cX6_tryOrder : ByteArray := prog_8_method_5_code
def yX6_tryOrder : MethodName := ⟨RX6, "tryOrder", "(LOrdersMadeOne$Program;)I"⟩
abbrev cX6_carryOut : ByteArray := prog_8_method_6_code
def yX6_carryOut : MethodName := ⟨RX6, "carryOut", "(II)V"⟩
abbrev cX6_layOneForTwo : ByteArray := prog_8_method_7_code
def yX6_layOneForTwo : MethodName := ⟨RX6, "layOneForTwo", "(I)V"⟩
abbrev cX6_turnUpperTwo : ByteArray := prog_8_method_8_code
def yX6_turnUpperTwo : MethodName := ⟨RX6, "turnUpperTwo", "()V"⟩
abbrev cX6_lay : ByteArray := prog_8_method_9_code
def yX6_lay : MethodName := ⟨RX6, "lay", "(I)V"⟩
abbrev cX6_lift : ByteArray := prog_8_method_10_code
def yX6_lift : MethodName := ⟨RX6, "lift", "()I"⟩
abbrev cX6_copyFrom : ByteArray := prog_8_method_11_code
def yX6_copyFrom : MethodName := ⟨RX6, "copyFrom", "(LOrdersMadeOne$Run;)V"⟩
def RX7 : String := "OrdersMadeOne$State"
def TX7 : u_T := fun k => match k with
  | 0 => ("OrdersMadeOne$State", "programCount", "I", false)
  | 1 => ("OrdersMadeOne$State", "programs", "[LOrdersMadeOne$Program;", true)
  | 2 => ("OrdersMadeOne$State", "joined", "LOrdersMadeOne$Rows;", true)
  | 3 => ("OrdersMadeOne$State", "packed", "LOrdersMadeOne$Packed;", true)
  | 4 => ("OrdersMadeOne$State", "latest", "LOrdersMadeOne$Run;", true)
  | 5 => ("OrdersMadeOne$State", "wasAsked", "Z", false)
  | 6 => ("OrdersMadeOne$State", "chosen", "LOrdersMadeOne$Rows;", true)
  | _ => ("OrdersMadeOne$State", "told", "LOrdersMadeOne$Told;", true)
def tyX7 : Nat → FieldType := fun k => match k with
  | 0 => .int
  | 1 => .array (.object "OrdersMadeOne$Program")
  | 2 => .object "OrdersMadeOne$Rows"
  | 3 => .object "OrdersMadeOne$Packed"
  | 4 => .object "OrdersMadeOne$Run"
  | 5 => .boolean
  | 6 => .object "OrdersMadeOne$Rows"
  | _ => .object "OrdersMadeOne$Told"
theorem nmX7 : ∀ a, a < 8 → ∀ b, b < 8 → a ≠ b → (TX7 a).2.1 ≠ (TX7 b).2.1 := by decide +kernel
theorem tyX7_ok : ∀ k, k < 8 → parseFieldDescriptor (TX7 k).2.2.1 = some (tyX7 k) := by decide +kernel
abbrev cX7_init : ByteArray := prog_9_method_1_code
def yX7_init : MethodName := ⟨RX7, "<init>", "()V"⟩
abbrev cX7_hasProgram : ByteArray := prog_9_method_2_code
def yX7_hasProgram : MethodName := ⟨RX7, "hasProgram", "(I)Z"⟩
abbrev cX7_hasOrder : ByteArray := prog_9_method_3_code
def yX7_hasOrder : MethodName := ⟨RX7, "hasOrder", "(II)Z"⟩
abbrev cX7_copyFrom : ByteArray := prog_9_method_4_code
def yX7_copyFrom : MethodName := ⟨RX7, "copyFrom", "(LOrdersMadeOne$State;)V"⟩
def RX8 : String := "OrdersMadeOne$Told"
def TX8 : u_T := fun k => match k with
  | 0 => ("OrdersMadeOne$Told", "size", "I", false)
  | 1 => ("OrdersMadeOne$Told", "told", "[I", true)
  | _ => ("OrdersMadeOne$Told", "next", "I", false)
def tyX8 : Nat → FieldType := fun k => match k with
  | 0 => .int
  | 1 => .array .int
  | _ => .int
theorem nmX8 : ∀ a, a < 3 → ∀ b, b < 3 → a ≠ b → (TX8 a).2.1 ≠ (TX8 b).2.1 := by decide +kernel
theorem tyX8_ok : ∀ k, k < 3 → parseFieldDescriptor (TX8 k).2.2.1 = some (tyX8 k) := by decide +kernel
abbrev cX8_init : ByteArray := prog_10_method_1_code
def yX8_init : MethodName := ⟨RX8, "<init>", "()V"⟩
abbrev cX8_append : ByteArray := prog_10_method_2_code
def yX8_append : MethodName := ⟨RX8, "append", "(II)Z"⟩
abbrev cX8_readInto : ByteArray := prog_10_method_3_code
def yX8_readInto : MethodName := ⟨RX8, "readInto", "(LOrdersMadeOne$Program;LOrdersMadeOne$Rows;)Z"⟩
abbrev cX8_readCode : ByteArray := prog_10_method_4_code
def yX8_readCode : MethodName := ⟨RX8, "readCode", "(LOrdersMadeOne$Program;LOrdersMadeOne$Rows;I)Z"⟩
abbrev cX8_readOrder : ByteArray := prog_10_method_5_code
def yX8_readOrder : MethodName := ⟨RX8, "readOrder", "(LOrdersMadeOne$Program;I)Z"⟩
abbrev cX8_copyFrom : ByteArray := prog_10_method_6_code
def yX8_copyFrom : MethodName := ⟨RX8, "copyFrom", "(LOrdersMadeOne$Told;)V"⟩
def RX9 : String := "OrdersMadeOne$Ways"
def TX9 : u_T := fun k => match k with
  | 0 => ("OrdersMadeOne$Ways", "lengths", "[I", true)
  | 1 => ("OrdersMadeOne$Ways", "numbers", "[I", true)
  | _ => ("OrdersMadeOne$Ways", "least", "[I", true)
def tyX9 : Nat → FieldType := fun k => match k with
  | 0 => .array .int
  | 1 => .array .int
  | _ => .array .int
theorem nmX9 : ∀ a, a < 3 → ∀ b, b < 3 → a ≠ b → (TX9 a).2.1 ≠ (TX9 b).2.1 := by decide +kernel
theorem tyX9_ok : ∀ k, k < 3 → parseFieldDescriptor (TX9 k).2.2.1 = some (tyX9 k) := by decide +kernel
abbrev cX9_init : ByteArray := prog_11_method_1_code
def yX9_init : MethodName := ⟨RX9, "<init>", "()V"⟩
abbrev cX9_measure : ByteArray := prog_11_method_2_code
def yX9_measure : MethodName := ⟨RX9, "measure", "(LOrdersMadeOne$Program;LOrdersMadeOne$Rows;Z)I"⟩
abbrev cX9_begin : ByteArray := prog_11_method_3_code
def yX9_begin : MethodName := ⟨RX9, "begin", "(LOrdersMadeOne$Program;LOrdersMadeOne$Rows;I)V"⟩
def RX10 : String := "OrdersMadeOne"
def TX10 : u_T := fun k => match k with
  | 0 => ("OrdersMadeOne", "now", "LOrdersMadeOne$State;", true)
  | 1 => ("OrdersMadeOne", "images", "[LOrdersMadeOne$State;", true)
  | 2 => ("OrdersMadeOne", "ways", "LOrdersMadeOne$Ways;", true)
  | _ => ("OrdersMadeOne", "chooser", "LOrdersMadeOne$Chooser;", true)
def tyX10 : Nat → FieldType := fun k => match k with
  | 0 => .object "OrdersMadeOne$State"
  | 1 => .array (.object "OrdersMadeOne$State")
  | 2 => .object "OrdersMadeOne$Ways"
  | _ => .object "OrdersMadeOne$Chooser"
theorem nmX10 : ∀ a, a < 4 → ∀ b, b < 4 → a ≠ b → (TX10 a).2.1 ≠ (TX10 b).2.1 := by decide +kernel
theorem tyX10_ok : ∀ k, k < 4 → parseFieldDescriptor (TX10 k).2.2.1 = some (tyX10 k) := by decide +kernel
abbrev cX10_init : ByteArray := prog_1_method_1_code
def yX10_init : MethodName := ⟨RX10, "<init>", "()V"⟩
abbrev cX10_program : ByteArray := prog_1_method_2_code
def yX10_program : MethodName := ⟨RX10, "program", "()I"⟩
abbrev cX10_order : ByteArray := prog_1_method_3_code
def yX10_order : MethodName := ⟨RX10, "order", "(III)I"⟩
abbrev cX10_change : ByteArray := prog_1_method_4_code
def yX10_change : MethodName := ⟨RX10, "change", "(III)Z"⟩
abbrev cX10_tell : ByteArray := prog_1_method_5_code
def yX10_tell : MethodName := ⟨RX10, "tell", "(III)I"⟩
abbrev cX10_join : ByteArray := prog_1_method_6_code
def yX10_join : MethodName := ⟨RX10, "join", "(IIIII)I"⟩
abbrev cX10_part : ByteArray := prog_1_method_7_code
def yX10_part : MethodName := ⟨RX10, "part", "()V"⟩
abbrev cX10_joined : ByteArray := prog_1_method_8_code
def yX10_joined : MethodName := ⟨RX10, "joined", "(II)I"⟩
abbrev cX10_pack : ByteArray := prog_1_method_9_code
def yX10_pack : MethodName := ⟨RX10, "pack", "(I)I"⟩
abbrev cX10_code : ByteArray := prog_1_method_10_code
def yX10_code : MethodName := ⟨RX10, "code", "(II)I"⟩
abbrev cX10_bytes : ByteArray := prog_1_method_11_code
def yX10_bytes : MethodName := ⟨RX10, "bytes", "(I)I"⟩
abbrev cX10_run : ByteArray := prog_1_method_12_code
def yX10_run : MethodName := ⟨RX10, "run", "(IZI)I"⟩
abbrev cX10_ran : ByteArray := prog_1_method_13_code
def yX10_ran : MethodName := ⟨RX10, "ran", "(I)I"⟩
abbrev cX10_had : ByteArray := prog_1_method_14_code
def yX10_had : MethodName := ⟨RX10, "had", "(II)I"⟩
abbrev cX10_cost : ByteArray := prog_1_method_15_code
def yX10_cost : MethodName := ⟨RX10, "cost", "(Z)I"⟩
abbrev cX10_choose : ByteArray := prog_1_method_16_code
def yX10_choose : MethodName := ⟨RX10, "choose", "(IZ)I"⟩
abbrev cX10_chosen : ByteArray := prog_1_method_17_code
def yX10_chosen : MethodName := ⟨RX10, "chosen", "(II)I"⟩
abbrev cX10_take : ByteArray := prog_1_method_18_code
def yX10_take : MethodName := ⟨RX10, "take", "()I"⟩
abbrev cX10_feed : ByteArray := prog_1_method_19_code
def yX10_feed : MethodName := ⟨RX10, "feed", "(II)I"⟩
abbrev cX10_read : ByteArray := prog_1_method_20_code
def yX10_read : MethodName := ⟨RX10, "read", "()I"⟩
abbrev cX10_count : ByteArray := prog_1_method_21_code
def yX10_count : MethodName := ⟨RX10, "count", "(I)I"⟩
abbrev cX10_image : ByteArray := prog_1_method_22_code
def yX10_image : MethodName := ⟨RX10, "image", "(I)Z"⟩
abbrev cX10_again : ByteArray := prog_1_method_23_code
def yX10_again : MethodName := ⟨RX10, "again", "(I)Z"⟩
abbrev cX10_numberOf : ByteArray := prog_1_method_24_code
def yX10_numberOf : MethodName := ⟨RX10, "numberOf", "([III)I"⟩
def RX11 : String := "OrdersMadeOneModel"
def TX11 : u_T := fun k => match k with
  | 0 => ("OrdersMadeOneModel", "code", "I", false)
  | 1 => ("OrdersMadeOneModel", "programs", "[I", true)
  | 2 => ("OrdersMadeOneModel", "size", "[I", true)
  | 3 => ("OrdersMadeOneModel", "kind", "[I", true)
  | 4 => ("OrdersMadeOneModel", "argument", "[I", true)
  | 5 => ("OrdersMadeOneModel", "done", "[I", true)
  | 6 => ("OrdersMadeOneModel", "joins", "[I", true)
  | 7 => ("OrdersMadeOneModel", "join", "[I", true)
  | 8 => ("OrdersMadeOneModel", "packedSize", "[I", true)
  | 9 => ("OrdersMadeOneModel", "packedKind", "[I", true)
  | 10 => ("OrdersMadeOneModel", "packedArgument", "[I", true)
  | 11 => ("OrdersMadeOneModel", "packedCodes", "[I", true)
  | 12 => ("OrdersMadeOneModel", "packed", "[I", true)
  | 13 => ("OrdersMadeOneModel", "packedBytes", "[I", true)
  | 14 => ("OrdersMadeOneModel", "byteRow", "[I", true)
  | 15 => ("OrdersMadeOneModel", "ended", "[I", true)
  | 16 => ("OrdersMadeOneModel", "ranDone", "[I", true)
  | 17 => ("OrdersMadeOneModel", "ranCodes", "[I", true)
  | 18 => ("OrdersMadeOneModel", "ranPlace", "[I", true)
  | 19 => ("OrdersMadeOneModel", "piled", "[I", true)
  | 20 => ("OrdersMadeOneModel", "pile", "[I", true)
  | 21 => ("OrdersMadeOneModel", "outs", "[I", true)
  | 22 => ("OrdersMadeOneModel", "out", "[I", true)
  | 23 => ("OrdersMadeOneModel", "register", "[I", true)
  | 24 => ("OrdersMadeOneModel", "rowsChosen", "[I", true)
  | 25 => ("OrdersMadeOneModel", "chosenRow", "[I", true)
  | 26 => ("OrdersMadeOneModel", "told", "[I", true)
  | 27 => ("OrdersMadeOneModel", "toldByte", "[I", true)
  | 28 => ("OrdersMadeOneModel", "tries", "I", false)
  | 29 => ("OrdersMadeOneModel", "row", "[I", true)
  | 30 => ("OrdersMadeOneModel", "led", "[Z", true)
  | 31 => ("OrdersMadeOneModel", "least", "[I", true)
  | 32 => ("OrdersMadeOneModel", "runKind", "[I", true)
  | 33 => ("OrdersMadeOneModel", "runArgument", "[I", true)
  | 34 => ("OrdersMadeOneModel", "runDone", "[I", true)
  | 35 => ("OrdersMadeOneModel", "begins", "[Z", true)
  | 36 => ("OrdersMadeOneModel", "found", "[I", true)
  | 37 => ("OrdersMadeOneModel", "gain", "[I", true)
  | 38 => ("OrdersMadeOneModel", "many", "I", false)
  | 39 => ("OrdersMadeOneModel", "bestCost", "I", false)
  | 40 => ("OrdersMadeOneModel", "bestMany", "I", false)
  | 41 => ("OrdersMadeOneModel", "best", "[I", true)
  | 42 => ("OrdersMadeOneModel", "now", "[I", true)
  | 43 => ("OrdersMadeOneModel", "readKind", "[I", true)
  | 44 => ("OrdersMadeOneModel", "readArgument", "[I", true)
  | 45 => ("OrdersMadeOneModel", "reads", "I", false)
  | 46 => ("OrdersMadeOneModel", "next", "I", false)
  | _ => ("OrdersMadeOneModel", "has", "[Z", true)
def tyX11 : Nat → FieldType := fun k => match k with
  | 0 => .int
  | 1 => .array .int
  | 2 => .array .int
  | 3 => .array .int
  | 4 => .array .int
  | 5 => .array .int
  | 6 => .array .int
  | 7 => .array .int
  | 8 => .array .int
  | 9 => .array .int
  | 10 => .array .int
  | 11 => .array .int
  | 12 => .array .int
  | 13 => .array .int
  | 14 => .array .int
  | 15 => .array .int
  | 16 => .array .int
  | 17 => .array .int
  | 18 => .array .int
  | 19 => .array .int
  | 20 => .array .int
  | 21 => .array .int
  | 22 => .array .int
  | 23 => .array .int
  | 24 => .array .int
  | 25 => .array .int
  | 26 => .array .int
  | 27 => .array .int
  | 28 => .int
  | 29 => .array .int
  | 30 => .array .boolean
  | 31 => .array .int
  | 32 => .array .int
  | 33 => .array .int
  | 34 => .array .int
  | 35 => .array .boolean
  | 36 => .array .int
  | 37 => .array .int
  | 38 => .int
  | 39 => .int
  | 40 => .int
  | 41 => .array .int
  | 42 => .array .int
  | 43 => .array .int
  | 44 => .array .int
  | 45 => .int
  | 46 => .int
  | _ => .array .boolean
theorem nmX11 : ∀ a, a < 48 → ∀ b, b < 48 → a ≠ b → (TX11 a).2.1 ≠ (TX11 b).2.1 := by decide +kernel
theorem tyX11_ok : ∀ k, k < 48 → parseFieldDescriptor (TX11 k).2.2.1 = some (tyX11 k) := by decide +kernel
abbrev cX11_init : ByteArray := prog_13_method_1_code
def yX11_init : MethodName := ⟨RX11, "<init>", "()V"⟩
abbrev cX11_in : ByteArray := prog_13_method_3_code
def yX11_in : MethodName := ⟨RX11, "in", "(III)Z"⟩
abbrev cX11_move : ByteArray := prog_13_method_4_code
def yX11_move : MethodName := ⟨RX11, "move", "([IIII)V"⟩
abbrev cX11_copy : ByteArray := prog_13_method_5_code
def yX11_copy : MethodName := ⟨RX11, "copy", "(II)V"⟩
abbrev cX11_isProgram : ByteArray := prog_13_method_6_code
def yX11_isProgram : MethodName := ⟨RX11, "isProgram", "(I)Z"⟩
abbrev cX11_hasArgument : ByteArray := prog_13_method_7_code
def yX11_hasArgument : MethodName := ⟨RX11, "hasArgument", "(I)Z"⟩
abbrev cX11_isArgument : ByteArray := prog_13_method_8_code
def yX11_isArgument : MethodName := ⟨RX11, "isArgument", "(II)Z"⟩
abbrev cX11_forget : ByteArray := prog_13_method_9_code
def yX11_forget : MethodName := ⟨RX11, "forget", "(I)V"⟩
abbrev cX11_program : ByteArray := prog_13_method_10_code
def yX11_program : MethodName := ⟨RX11, "program", "()I"⟩
abbrev cX11_order : ByteArray := prog_13_method_11_code
def yX11_order : MethodName := ⟨RX11, "order", "(III)I"⟩
abbrev cX11_change : ByteArray := prog_13_method_12_code
def yX11_change : MethodName := ⟨RX11, "change", "(III)Z"⟩
abbrev cX11_isLed : ByteArray := prog_13_method_13_code
def yX11_isLed : MethodName := ⟨RX11, "isLed", "(II)Z"⟩
abbrev cX11_tell : ByteArray := prog_13_method_14_code
def yX11_tell : MethodName := ⟨RX11, "tell", "(III)I"⟩
abbrev cX11_isLast : ByteArray := prog_13_method_15_code
def yX11_isLast : MethodName := ⟨RX11, "isLast", "(I)Z"⟩
abbrev cX11_join : ByteArray := prog_13_method_16_code
def yX11_join : MethodName := ⟨RX11, "join", "(IIIII)I"⟩
abbrev cX11_part : ByteArray := prog_13_method_17_code
def yX11_part : MethodName := ⟨RX11, "part", "()V"⟩
abbrev cX11_joined : ByteArray := prog_13_method_18_code
def yX11_joined : MethodName := ⟨RX11, "joined", "(II)I"⟩
abbrev cX11_readLed : ByteArray := prog_13_method_19_code
def yX11_readLed : MethodName := ⟨RX11, "readLed", "(I)V"⟩
abbrev cX11_stands : ByteArray := prog_13_method_20_code
def yX11_stands : MethodName := ⟨RX11, "stands", "(III)Z"⟩
abbrev cX11_findLeast : ByteArray := prog_13_method_21_code
def yX11_findLeast : MethodName := ⟨RX11, "findLeast", "(II)V"⟩
abbrev cX11_takeJoins : ByteArray := prog_13_method_22_code
def yX11_takeJoins : MethodName := ⟨RX11, "takeJoins", "()V"⟩
abbrev cX11_costOf : ByteArray := prog_13_method_23_code
def yX11_costOf : MethodName := ⟨RX11, "costOf", "(I)I"⟩
abbrev cX11_putByte : ByteArray := prog_13_method_24_code
def yX11_putByte : MethodName := ⟨RX11, "putByte", "(I)V"⟩
abbrev cX11_pack : ByteArray := prog_13_method_25_code
def yX11_pack : MethodName := ⟨RX11, "pack", "(I)I"⟩
abbrev cX11_code : ByteArray := prog_13_method_26_code
def yX11_code : MethodName := ⟨RX11, "code", "(II)I"⟩
abbrev cX11_bytes : ByteArray := prog_13_method_27_code
def yX11_bytes : MethodName := ⟨RX11, "bytes", "(I)I"⟩
abbrev cX11_wants : ByteArray := prog_13_method_28_code
def yX11_wants : MethodName := ⟨RX11, "wants", "(I)I"⟩
abbrev cX11_push : ByteArray := prog_13_method_29_code
def yX11_push : MethodName := ⟨RX11, "push", "(I)V"⟩
abbrev cX11_pop : ByteArray := prog_13_method_30_code
def yX11_pop : MethodName := ⟨RX11, "pop", "()I"⟩
abbrev cX11_worked : ByteArray := prog_13_method_31_code
def yX11_worked : MethodName := ⟨RX11, "worked", "(III)I"⟩
abbrev cX11_does : ByteArray := prog_13_method_32_code
def yX11_does : MethodName := ⟨RX11, "does", "(I)I"⟩
abbrev cX11_runs : ByteArray := prog_13_method_33_code
def yX11_runs : MethodName := ⟨RX11, "runs", "(II)I"⟩
abbrev cX11_run : ByteArray := prog_13_method_34_code
def yX11_run : MethodName := ⟨RX11, "run", "(IZI)I"⟩
abbrev cX11_ran : ByteArray := prog_13_method_35_code
def yX11_ran : MethodName := ⟨RX11, "ran", "(I)I"⟩
abbrev cX11_had : ByteArray := prog_13_method_36_code
def yX11_had : MethodName := ⟨RX11, "had", "(II)I"⟩
abbrev cX11_cost : ByteArray := prog_13_method_37_code
def yX11_cost : MethodName := ⟨RX11, "cost", "(Z)I"⟩
abbrev cX11_putFound : ByteArray := prog_13_method_38_code
def yX11_putFound : MethodName := ⟨RX11, "putFound", "(I)V"⟩
abbrev cX11_findRows : ByteArray := prog_13_method_39_code
def yX11_findRows : MethodName := ⟨RX11, "findRows", "()V"⟩
abbrev cX11_tryRow : ByteArray := prog_13_method_40_code
def yX11_tryRow : MethodName := ⟨RX11, "tryRow", "(II)V"⟩
abbrev cX11_tryNow : ByteArray := prog_13_method_41_code
def yX11_tryNow : MethodName := ⟨RX11, "tryNow", "(II)V"⟩
abbrev cX11_choose : ByteArray := prog_13_method_42_code
def yX11_choose : MethodName := ⟨RX11, "choose", "(IZ)I"⟩
abbrev cX11_chosen : ByteArray := prog_13_method_43_code
def yX11_chosen : MethodName := ⟨RX11, "chosen", "(II)I"⟩
abbrev cX11_take : ByteArray := prog_13_method_44_code
def yX11_take : MethodName := ⟨RX11, "take", "()I"⟩
abbrev cX11_feed : ByteArray := prog_13_method_45_code
def yX11_feed : MethodName := ⟨RX11, "feed", "(II)I"⟩
abbrev cX11_readOrder : ByteArray := prog_13_method_46_code
def yX11_readOrder : MethodName := ⟨RX11, "readOrder", "(I)Z"⟩
abbrev cX11_readAll : ByteArray := prog_13_method_47_code
def yX11_readAll : MethodName := ⟨RX11, "readAll", "()Z"⟩
abbrev cX11_read : ByteArray := prog_13_method_48_code
def yX11_read : MethodName := ⟨RX11, "read", "()I"⟩
abbrev cX11_count : ByteArray := prog_13_method_49_code
def yX11_count : MethodName := ⟨RX11, "count", "(I)I"⟩
abbrev cX11_image : ByteArray := prog_13_method_50_code
def yX11_image : MethodName := ⟨RX11, "image", "(I)Z"⟩
abbrev cX11_again : ByteArray := prog_13_method_51_code
def yX11_again : MethodName := ⟨RX11, "again", "(I)Z"⟩
def RJ9 : String := "java/lang/Math"
def TJ9 : u_T := fun k => match k with
  | _ => ("", "", "", false)
def tyJ9 : Nat → FieldType := fun k => match k with
  | _ => .int
theorem nmJ9 : ∀ a, a < 0 → ∀ b, b < 0 → a ≠ b → (TJ9 a).2.1 ≠ (TJ9 b).2.1 := by decide +kernel
theorem tyJ9_ok : ∀ k, k < 0 → parseFieldDescriptor (TJ9 k).2.2.1 = some (tyJ9 k) := by decide +kernel
abbrev cJ9_max_7cf53 : ByteArray := prog_14_method_65_code
def yJ9_max_7cf53 : MethodName := ⟨RJ9, "max", "(II)I"⟩
def RJ10 : String := "java/lang/System"
def TJ10 : u_T := fun k => match k with
  | _ => ("", "", "", false)
def tyJ10 : Nat → FieldType := fun k => match k with
  | _ => .int
theorem nmJ10 : ∀ a, a < 0 → ∀ b, b < 0 → a ≠ b → (TJ10 a).2.1 ≠ (TJ10 b).2.1 := by decide +kernel
theorem tyJ10_ok : ∀ k, k < 0 → parseFieldDescriptor (TJ10 k).2.2.1 = some (tyJ10 k) := by decide +kernel
def RJ7 : String := "java/util/Arrays"
def TJ7 : u_T := fun k => match k with
  | _ => ("", "", "", false)
def tyJ7 : Nat → FieldType := fun k => match k with
  | _ => .int
theorem nmJ7 : ∀ a, a < 0 → ∀ b, b < 0 → a ≠ b → (TJ7 a).2.1 ≠ (TJ7 b).2.1 := by decide +kernel
theorem tyJ7_ok : ∀ k, k < 0 → parseFieldDescriptor (TJ7 k).2.2.1 = some (tyJ7 k) := by decide +kernel
abbrev cJ7_fill_53178 : ByteArray := prog_16_method_103_code
def yJ7_fill_53178 : MethodName := ⟨RJ7, "fill", "([II)V"⟩
def RL : String := "OrdersMadeOneLaw"
abbrev cL_law : ByteArray := code
def yL_law : MethodName := ⟨RL, "law", "([I)Z"⟩
end
section
/-! the abstract machine: a method's run over a heap of numbered cells, each with its shape, its ints and its pointers -/
abbrev MI : Type := MethodName × ByteArray × Nat × Option FieldType
abbrev ASh : Type := Nat → Nat × Nat
abbrev AIn : Type := Nat → Nat → Int32
abbrev APt : Type := Nat → Nat → Option Nat
abbrev APo : Type := Option Int32 → ASh → AIn → APt → Prop
def am_tb : List Cond := lw_tbl.filter goodWord
theorem am_in {w : Cond} (i : Nat) (h : tables_1[i]? = some w) (hg : goodWord w = true) : w ∈ am_tb := List.mem_filter.mpr ⟨List.mem_append_right _ (List.mem_of_getElem? h), hg⟩
theorem am_inP {w : Cond} (i : Nat) (h : (k2_sels lw_privs)[i]? = some w) (hg : goodWord w = true) : w ∈ am_tb := List.mem_filter.mpr ⟨List.mem_append_left _ (List.mem_of_getElem? h), hg⟩
theorem am_good : ∀ w ∈ am_tb, (w.onTables && w.keeps) = true ∨ ∃ ty, w = .arrayClass ty := fun _ h => good_of_word (List.mem_filter.mp h).2
theorem am_goodIn {a b : Cond} (h : b ∈ am_tb) : GoodIn (a :: am_tb) (b :: am_tb) := fun w hw => by
  rcases List.mem_cons.mp hw with rfl | hw
  · exact ⟨List.mem_cons_of_mem _ h, am_good _ h⟩
  · exact ⟨List.mem_cons_of_mem _ hw, am_good _ hw⟩
def am_cl : List vw_C := [(RX0, TX0, 15), (RX2, TX2, 9), (RX3, TX3, 5), (RX5, TX5, 2), (RX6, TX6, 9), (RX7, TX7, 8), (RX8, TX8, 3), (RX9, TX9, 3), (RX10, TX10, 4), (RX11, TX11, 48)]
def am_ty (ci : Nat) : Nat → FieldType := match ci with
  | 0 => tyX0 | 1 => tyX2 | 2 => tyX3 | 3 => tyX5 | 4 => tyX6 | 5 => tyX7 | 6 => tyX8 | 7 => tyX9 | 8 => tyX10 | _ => tyX11
def am_tys (t : Nat → ClassId) : List (ClassId × FieldType) := [(t 0, .int), (t 1, .boolean), (t 2, .object RX3), (t 3, .object RX7)]
def am_isR (t : FieldType) : Bool := match t with
  | .object _ => true
  | .array _ => true
  | _ => false
def cv (ad : Nat → Nat) (v : Value) : Value := match v with
  | .ref k => .ref (ad k)
  | w => w
def am_rf (ad : Nat → Nat) (q : Option Nat) : Value := match q with
  | none => .null
  | some k => .ref (ad k)
def am_vr (q : Option Nat) : Value := match q with
  | none => .null
  | some k => .ref k
theorem cv_vr (ad : Nat → Nat) (q : Option Nat) : cv ad (am_vr q) = am_rf ad q := by cases q <;> rfl
def am_ov (ci : Nat) (ad : Nat → Nat) (Ik : Nat → Int32) (Pk : Nat → Option Nat) : Nat → Value := fun j => if am_isR (am_ty ci j) = true then am_rf ad (Pk j) else .int (Ik j)
def am_at (D : va_G) (t : Nat → ClassId) (ad : Nat → Nat) (q : Nat × Nat) (Ik : Nat → Int32) (Pk : Nat → Option Nat) (a : Nat) (H : Heap) : Prop := match q.1 with
  | 0 => True
  | 1 => ∃ r : vw_C, am_cl[q.2]? = some r ∧ t_OB a (D.1 q.2) r.2.2 (D.2 q.2) H (am_ov q.2 ad Ik Pk)
  | 2 => H[a]? = some (arrV (t 0) q.2 (fun j => .int (Ik j)))
  | 3 => H[a]? = some (arrV (t 1) q.2 (fun j => .int (Ik j)))
  | 4 => H[a]? = some (arrV (t 2) q.2 (fun j => am_rf ad (Pk j)))
  | 5 => H[a]? = some (arrV (t 3) q.2 (fun j => am_rf ad (Pk j)))
  | _ => False
def am_W (D : va_G) (t : Nat → ClassId) (A : Nat → Prop) (ad : Nat → Nat) (sh : ASh) (I : AIn) (P : APt) (H : Heap) : Prop :=
  (∀ k, (sh k).1 ≠ 0 → A (ad k)) ∧ (∀ i j, (sh i).1 ≠ 0 → (sh j).1 ≠ 0 → ad i = ad j → i = j) ∧ (∀ k j q, (sh k).1 ≠ 0 → P k j = some q → (sh q).1 ≠ 0) ∧ ∀ k, am_at D t ad (sh k) (I k) (P k) (ad k) H
def am_sn (i : Nat) : String := match i with
  | 0 => "WANTS" | 1 => "LEAVES" | 2 => "LEAST_ARGUMENT" | _ => "MOST_ARGUMENT"
def am_st (i : Nat) : Nat → Int32 := fun j => match i with
  | 0 => ([0, 2, 2, 2, 1, 2, 1, 0, 1, 0, 1, 2, 1, 0, 0, 0] : List Int32).getD j 0
  | 1 => ([1, 1, 1, 1, 2, 2, 0, 1, 0, 0, 0, 1, 0, 0, 0, 0] : List Int32).getD j 0
  | 2 => ([-128, 0, 0, 0, 0, 0, 0, 0, 0, 0, 0, 0, 0, 0, 0, 0] : List Int32).getD j 0
  | _ => ([127, 0, 0, 0, 0, 0, 0, 7, 7, 39, 39, 0, 0, 0, 0, 7] : List Int32).getD j 0
def am_ne : List (String × Nat × MethodName × String) := [(RX10, 22, yX9_init, RX10), (RX10, 29, yX0_init, RX10), (RX2, 11, yX3_init, RX10), (RX7, 17, yX5_init, RX10), (RX7, 24, yX2_init, RX10), (RX7, 31, yX6_init, RX10), (RX7, 41, yX8_init, RX10), (RX7, 46, yX3_init, RX10)]
def am_N (D : va_G) (t : Nat → ClassId) (A : Nat → Prop) (U : State) (H : Heap) : Prop :=
  va_K D am_cl (am_tys t) U ∧ (va_AO RX3 U ∧ va_AO RX7 U) ∧ (∀ q ∈ am_ne, va_Nw (.methodLinkNest q.1 q.2.1 q.2.2.1 q.2.2.2) U) ∧ ∀ i, i < 4 → ∃ a, va_Z RX1 (am_sn i) "[I" (.ref a) A U H ∧ va_T .int a 16 (fun j => .int (am_st i j)) A U H
theorem am_N.moved {D : va_G} {t : Nat → ClassId} {A : Nat → Prop} {u U : State} {H H1 : Heap} (h : am_N D t A u H) (hW : u.WarmedH U.vm) (hq : ∀ a : Nat, a < H.size → ¬ A a → H1[a]? = H[a]?) : am_N D t A U H1 := by
  obtain ⟨h1, ⟨h2, h3⟩, h4, h5⟩ := h
  refine ⟨va_K.moved hW.alike h1, ⟨h2.moved hW.alike, h3.moved hW.alike⟩, fun q hq2 => va_Nw.warmM hW (h4 q hq2), fun i hi => ?_⟩
  obtain ⟨a, g1, g2⟩ := h5 i hi
  exact ⟨a, (g1.moved hW.alike).kept hq, (g2.moved hW.alike).kept hq⟩
theorem am_N.same {D : va_G} {t : Nat → ClassId} {A : Nat → Prop} {u U : State} {H : Heap} (h : am_N D t A u H) (e : u.vm = U.vm) : am_N D t A U H := by
  have hA : u.vm.Alike U.vm := by rw [← e]; exact Vm.Alike.refl _
  obtain ⟨h1, ⟨h2, h3⟩, h4, h5⟩ := h
  refine ⟨va_K.moved hA h1, ⟨h2.moved hA, h3.moved hA⟩, fun q hq2 => va_Nw.same rfl e (h4 q hq2), fun i hi => ?_⟩
  obtain ⟨a, g1, g2⟩ := h5 i hi
  exact ⟨a, g1.moved hA, g2.moved hA⟩
def am_ok (sh : ASh) (v : Value) : Prop := match v with
  | .int _ => True
  | .null => True
  | .ref k => (sh k).1 ≠ 0
  | _ => False
def am_L (ad : Nat → Nat) (ls : Array Slot) (n : Nat) (lv : List (Option Value)) : Prop := lv.length = n ∧ ls.size = n ∧ lv_wf ls ∧ ∀ (i : Nat) (v : Value), lv[i]? = some (some v) → ls[i]? = some (.val (cv ad v))
def am_C (mi : MI) (fr lo mc ms : Nat) (D : va_G) (t : Nat → ClassId) (A : Nat → Prop) (p : Program) (R : Room) (s : State) (m : MethodId) (args : Array Value) (meth : Method) (c : Code) : Prop :=
  p.tables.exec = Jvm.exec ∧ c.code = mi.2.1 ∧ c.maxLocals = mi.2.2.1 ∧ meth.sig.returnType = mi.2.2.2 ∧ s.vm.findClass mi.1.cls = some m.cls ∧ (∀ w ∈ am_tb, w.before args s = true) ∧ meth.locks = false ∧ meth.name = mi.1.name ∧ (fr ≤ R.frames ∧ lo ≤ R.locals ∧ mc ≤ R.cells ∧ ms ≤ R.slots) ∧ am_N D t A s s.heap ∧ ∀ q, s.heap.size ≤ q → A q
def am_E (sh0 : ASh) (ad0 : Nat → Nat) (sh : ASh) (ad : Nat → Nat) : Prop := ∀ k, (sh0 k).1 ≠ 0 → (sh k).1 ≠ 0 ∧ ad k = ad0 k
def am_X (D : va_G) (t : Nat → ClassId) (A : Nat → Prop) (sh0 : ASh) (ad0 ad : Nat → Nat) (H0 H : Heap) (locs : List Loc) (ls : Array Slot) (n : Nat) (lv : List (Option Value)) (st : List Value) (sh : ASh) (I : AIn) (P : APt) : Prop :=
  am_W D t A ad sh I P H ∧ am_E sh0 ad0 sh ad ∧ va_S A H0 H locs ∧ am_L ad ls n lv ∧ (∀ v ∈ st, am_ok sh v) ∧ ∀ (i : Nat) (v : Value), lv[i]? = some (some v) → am_ok sh v
def am_Q (D : va_G) (t : Nat → ClassId) (A : Nat → Prop) (ad0 : Nat → Nat) (sh0 : ASh) (post : APo) : Array Value → State → Outcome → State → Prop := fun _ st oc u =>
  (∃ (r : Option Int32) (ad : Nat → Nat) (sh : ASh) (I : AIn) (P : APt), oc = .returned (r.map Value.int) ∧ post r sh I P ∧ am_E sh0 ad0 sh ad ∧ am_W D t A ad sh I P u.heap) ∧ va_F A st u
/-- the run of a method from pc on, with room, cells and slots still to spend, comes to its end with post -/
def am_R (mi : MI) (post : APo) (fr lo c0 s0 pc : Nat) (lv : List (Option Value)) (st : List Value) (sh : ASh) (I : AIn) (P : APt) : Prop :=
  ∀ (l : Launch) (p : Program) (e : Env) (R : Room) (s : State) (m : MethodId) (args : Array Value) (below : List Frame) (meth : Method) (c : Code) (D : va_G) (t : Nat → ClassId) (A : Nat → Prop) (sh0 : ASh) (ad0 ad : Nat → Nat) (mc ms : Nat) (H : Heap) (locs : List Loc) (cells slots : Nat) (ls : Array Slot),
    am_C mi fr lo mc ms D t A p R s m args meth c → cells + c0 = mc → slots + s0 = ms → am_X D t A sh0 ad0 ad s.heap H locs ls mi.2.2.1 lv st sh I P →
    W p l e R s m args below meth c H locs cells slots (MQ below (am_Q D t A ad0 sh0 post) args s mc ms A) (F0 m pc ls (st.map (cv ad)))
theorem am_okc {sh : ASh} {v : Value} {st : List Value} (h : am_ok sh v) (h2 : ∀ w ∈ st, am_ok sh w) : ∀ w ∈ v :: st, am_ok sh w := fun w hw => by
  rcases List.mem_cons.mp hw with rfl | hw
  · exact h
  · exact h2 w hw
theorem am_okt {sh : ASh} {v : Value} {st : List Value} (h : ∀ w ∈ v :: st, am_ok sh w) : ∀ w ∈ st, am_ok sh w := fun w hw => h w (List.mem_cons_of_mem _ hw)
theorem am_okh {sh : ASh} {v : Value} {st : List Value} (h : ∀ w ∈ v :: st, am_ok sh w) : am_ok sh v := h v List.mem_cons_self
theorem am_cat {sh : ASh} {v : Value} (h : am_ok sh v) : v.category = 1 := by cases v <;> first | rfl | exact h.elim
theorem am_catc {sh : ASh} {v : Value} (ad : Nat → Nat) (h : am_ok sh v) : (cv ad v).category = 1 := by cases v <;> first | rfl | exact h.elim
section AMR
variable {mi : MI} {post : APo} {fr lo c0 s0 pc : Nat} {lv : List (Option Value)} {st : List Value} {sh : ASh} {I : AIn} {P : APt}
theorem am_pure {st' : List Value} {pc' : Nat} (hk : am_R mi post fr lo c0 s0 pc' lv st' sh I P)
    (hok : (∀ v ∈ st, am_ok sh v) → (∀ (i : Nat) (v : Value), lv[i]? = some (some v) → am_ok sh v) → ∀ v ∈ st', am_ok sh v)
    (hW : ∀ {l : Launch} {p : Program} {e : Env} {R : Room} {s : State} {m : MethodId} {args : Array Value} {below : List Frame} {meth : Method} {c : Code} {H : Heap} {locs : List Loc} {cells slots : Nat} {Q : State → Prop} {ad : Nat → Nat} {ls : Array Slot}, p.tables.exec = Jvm.exec → c.code = mi.2.1 → (∀ (i : Nat) (v : Value), lv[i]? = some (some v) → ls[i]? = some (.val (cv ad v))) → (∀ v ∈ st, am_ok sh v) →
      W p l e R s m args below meth c H locs cells slots Q (F0 m pc' ls (st'.map (cv ad))) → W p l e R s m args below meth c H locs cells slots Q (F0 m pc ls (st.map (cv ad)))) : am_R mi post fr lo c0 s0 pc lv st sh I P := by
  intro l p e R s m args below meth c D t A sh0 ad0 ad mc ms H locs cells slots ls C hc hs X
  obtain ⟨x1, x2, x3, x4, x5, x6⟩ := X
  exact hW C.1 C.2.1 x4.2.2.2 x5 (hk l p e R s m args below meth c D t A sh0 ad0 ad mc ms H locs cells slots ls C hc hs ⟨x1, x2, x3, x4, hok x5 x6, x6⟩)
theorem am_two {st' : List Value} {pc1 pc2 : Nat} {B : Prop} (h1 : B → am_R mi post fr lo c0 s0 pc1 lv st' sh I P) (h2 : ¬ B → am_R mi post fr lo c0 s0 pc2 lv st' sh I P)
    (hok : (∀ v ∈ st, am_ok sh v) → ∀ v ∈ st', am_ok sh v)
    (hW : ∀ {l : Launch} {p : Program} {e : Env} {R : Room} {s : State} {m : MethodId} {args : Array Value} {below : List Frame} {meth : Method} {c : Code} {H : Heap} {locs : List Loc} {cells slots : Nat} {Q : State → Prop} {ad : Nat → Nat} {ls : Array Slot}, p.tables.exec = Jvm.exec → c.code = mi.2.1 →
      (B → W p l e R s m args below meth c H locs cells slots Q (F0 m pc1 ls (st'.map (cv ad)))) → (¬ B → W p l e R s m args below meth c H locs cells slots Q (F0 m pc2 ls (st'.map (cv ad)))) → W p l e R s m args below meth c H locs cells slots Q (F0 m pc ls (st.map (cv ad)))) : am_R mi post fr lo c0 s0 pc lv st sh I P := by
  intro l p e R s m args below meth c D t A sh0 ad0 ad mc ms H locs cells slots ls C hc hs X
  obtain ⟨x1, x2, x3, x4, x5, x6⟩ := X
  exact hW C.1 C.2.1 (fun b => h1 b l p e R s m args below meth c D t A sh0 ad0 ad mc ms H locs cells slots ls C hc hs ⟨x1, x2, x3, x4, hok x5, x6⟩) (fun b => h2 b l p e R s m args below meth c D t A sh0 ad0 ad mc ms H locs cells slots ls C hc hs ⟨x1, x2, x3, x4, hok x5, x6⟩)
theorem r_iconst {n : Int} {v : Int32} (d : decode mi.2.1 pc = .ok (.iconst n, 1)) (hv : Int32.ofInt n = v) (k : am_R mi post fr lo c0 s0 (pc + 1) lv (.int v :: st) sh I P) : am_R mi post fr lo c0 s0 pc lv st sh I P :=
  am_pure k (fun h _ => am_okc trivial h) (fun hx hb _ _ kk => lv_iconst hx hb d hv kk)
theorem r_bipush {n : Int} {v : Int32} (d : decode mi.2.1 pc = .ok (.bipush n, 2)) (hv : (Int8.ofInt n).toInt32 = v) (k : am_R mi post fr lo c0 s0 (pc + 2) lv (.int v :: st) sh I P) : am_R mi post fr lo c0 s0 pc lv st sh I P :=
  am_pure k (fun h _ => am_okc trivial h) (fun hx hb _ _ kk => lv_bipush hx hb d hv kk)
theorem r_sipush {n : Int} {v : Int32} (d : decode mi.2.1 pc = .ok (.sipush n, 3)) (hv : (Int16.ofInt n).toInt32 = v) (k : am_R mi post fr lo c0 s0 (pc + 3) lv (.int v :: st) sh I P) : am_R mi post fr lo c0 s0 pc lv st sh I P :=
  am_pure k (fun h _ => am_okc trivial h) (fun hx hb _ _ kk => lv_sipush hx hb d hv kk)
theorem r_null (d : decode mi.2.1 pc = .ok (.aconst_null, 1)) (k : am_R mi post fr lo c0 s0 (pc + 1) lv (.null :: st) sh I P) : am_R mi post fr lo c0 s0 pc lv st sh I P :=
  am_pure k (fun h _ => am_okc trivial h) (fun hx hb _ _ kk => lv_null hx hb d kk)
theorem r_iload_n {j : Fin 4} {x : Int32} (d : decode mi.2.1 pc = .ok (.iload_n j, 1)) (h : lv[(j : Nat)]? = some (some (.int x))) (k : am_R mi post fr lo c0 s0 (pc + 1) lv (.int x :: st) sh I P) : am_R mi post fr lo c0 s0 pc lv st sh I P :=
  am_pure k (fun h _ => am_okc trivial h) (fun hx hb hl _ kk => lv_iload_n hx hb d rfl (hl _ _ h) kk)
theorem r_iload {j : Nat} {x : Int32} (d : decode mi.2.1 pc = .ok (.iload j, 2)) (h : lv[j]? = some (some (.int x))) (k : am_R mi post fr lo c0 s0 (pc + 2) lv (.int x :: st) sh I P) : am_R mi post fr lo c0 s0 pc lv st sh I P :=
  am_pure k (fun h _ => am_okc trivial h) (fun hx hb hl _ kk => lv_iload hx hb d (hl _ _ h) kk)
theorem r_aload_n {j : Fin 4} {x : Nat} (d : decode mi.2.1 pc = .ok (.aload_n j, 1)) (h : lv[(j : Nat)]? = some (some (.ref x))) (k : am_R mi post fr lo c0 s0 (pc + 1) lv (.ref x :: st) sh I P) : am_R mi post fr lo c0 s0 pc lv st sh I P :=
  am_pure k (fun h2 h3 => am_okc (h3 _ _ h) h2) (fun hx hb hl _ kk => lv_aload_n hx hb d rfl (hl _ _ h) kk)
theorem r_aload {j : Nat} {x : Nat} (d : decode mi.2.1 pc = .ok (.aload j, 2)) (h : lv[j]? = some (some (.ref x))) (k : am_R mi post fr lo c0 s0 (pc + 2) lv (.ref x :: st) sh I P) : am_R mi post fr lo c0 s0 pc lv st sh I P :=
  am_pure k (fun h2 h3 => am_okc (h3 _ _ h) h2) (fun hx hb hl _ kk => lv_aload hx hb d (hl _ _ h) kk)
theorem r_aload_nN {j : Fin 4} (d : decode mi.2.1 pc = .ok (.aload_n j, 1)) (h : lv[(j : Nat)]? = some (some .null)) (k : am_R mi post fr lo c0 s0 (pc + 1) lv (.null :: st) sh I P) : am_R mi post fr lo c0 s0 pc lv st sh I P :=
  am_pure k (fun h2 _ => am_okc trivial h2) (fun hx hb hl _ kk => lv_aload_nN hx hb d rfl (hl _ _ h) kk)
theorem r_iadd {x y : Int32} (d : decode mi.2.1 pc = .ok (.iadd, 1)) (k : am_R mi post fr lo c0 s0 (pc + 1) lv (.int (x + y) :: st) sh I P) : am_R mi post fr lo c0 s0 pc lv (.int y :: .int x :: st) sh I P :=
  am_pure k (fun h _ => am_okc trivial (am_okt (am_okt h))) (fun hx hb _ _ kk => lv_iadd hx hb d kk)
theorem r_isub {x y : Int32} (d : decode mi.2.1 pc = .ok (.isub, 1)) (k : am_R mi post fr lo c0 s0 (pc + 1) lv (.int (x - y) :: st) sh I P) : am_R mi post fr lo c0 s0 pc lv (.int y :: .int x :: st) sh I P :=
  am_pure k (fun h _ => am_okc trivial (am_okt (am_okt h))) (fun hx hb _ _ kk => lv_isub hx hb d kk)
theorem r_imul {x y : Int32} (d : decode mi.2.1 pc = .ok (.imul, 1)) (k : am_R mi post fr lo c0 s0 (pc + 1) lv (.int (x * y) :: st) sh I P) : am_R mi post fr lo c0 s0 pc lv (.int y :: .int x :: st) sh I P :=
  am_pure k (fun h _ => am_okc trivial (am_okt (am_okt h))) (fun hx hb _ _ kk => lv_imul hx hb d kk)
theorem r_idiv {x y : Int32} (d : decode mi.2.1 pc = .ok (.idiv, 1)) (hy : ¬ y = 0) (k : am_R mi post fr lo c0 s0 (pc + 1) lv (.int (x / y) :: st) sh I P) : am_R mi post fr lo c0 s0 pc lv (.int y :: .int x :: st) sh I P :=
  am_pure k (fun h _ => am_okc trivial (am_okt (am_okt h))) (fun hx hb _ _ kk => lv_idiv hx hb d hy kk)
theorem r_irem {x y : Int32} (d : decode mi.2.1 pc = .ok (.irem, 1)) (hy : ¬ y = 0) (k : am_R mi post fr lo c0 s0 (pc + 1) lv (.int (x - x / y * y) :: st) sh I P) : am_R mi post fr lo c0 s0 pc lv (.int y :: .int x :: st) sh I P :=
  am_pure k (fun h _ => am_okc trivial (am_okt (am_okt h))) (fun hx hb _ _ kk => lv_irem hx hb d hy kk)
theorem r_iand {x y : Int32} (d : decode mi.2.1 pc = .ok (.iand, 1)) (k : am_R mi post fr lo c0 s0 (pc + 1) lv (.int (x &&& y) :: st) sh I P) : am_R mi post fr lo c0 s0 pc lv (.int y :: .int x :: st) sh I P :=
  am_pure k (fun h _ => am_okc trivial (am_okt (am_okt h))) (fun hx hb _ _ kk => lv_iand hx hb d kk)
theorem r_ior {x y : Int32} (d : decode mi.2.1 pc = .ok (.ior, 1)) (k : am_R mi post fr lo c0 s0 (pc + 1) lv (.int (x ||| y) :: st) sh I P) : am_R mi post fr lo c0 s0 pc lv (.int y :: .int x :: st) sh I P :=
  am_pure k (fun h _ => am_okc trivial (am_okt (am_okt h))) (fun hx hb _ _ kk => lv_ior hx hb d kk)
theorem r_ishl {x y : Int32} (d : decode mi.2.1 pc = .ok (.ishl, 1)) (k : am_R mi post fr lo c0 s0 (pc + 1) lv (.int (x <<< (y &&& 31)) :: st) sh I P) : am_R mi post fr lo c0 s0 pc lv (.int y :: .int x :: st) sh I P :=
  am_pure k (fun h _ => am_okc trivial (am_okt (am_okt h))) (fun hx hb _ _ kk => lv_ishl hx hb d kk)
theorem r_ishr {x y : Int32} (d : decode mi.2.1 pc = .ok (.ishr, 1)) (k : am_R mi post fr lo c0 s0 (pc + 1) lv (.int (x >>> (y &&& 31)) :: st) sh I P) : am_R mi post fr lo c0 s0 pc lv (.int y :: .int x :: st) sh I P :=
  am_pure k (fun h _ => am_okc trivial (am_okt (am_okt h))) (fun hx hb _ _ kk => lv_ishr hx hb d kk)
theorem r_iushr {x y : Int32} (d : decode mi.2.1 pc = .ok (.iushr, 1)) (k : am_R mi post fr lo c0 s0 (pc + 1) lv (.int ((x.toUInt32 >>> (y.toUInt32 &&& Int32.toUInt32 31)).toInt32) :: st) sh I P) : am_R mi post fr lo c0 s0 pc lv (.int y :: .int x :: st) sh I P :=
  am_pure k (fun h _ => am_okc trivial (am_okt (am_okt h))) (fun hx hb _ _ kk => lv_iushr hx hb d rfl kk)
theorem r_i2b {x : Int32} (d : decode mi.2.1 pc = .ok (.i2b, 1)) (k : am_R mi post fr lo c0 s0 (pc + 1) lv (.int x.toInt8.toInt32 :: st) sh I P) : am_R mi post fr lo c0 s0 pc lv (.int x :: st) sh I P :=
  am_pure k (fun h _ => am_okc trivial (am_okt h)) (fun hx hb _ _ kk => lv_i2b hx hb d rfl kk)
theorem r_dup {v : Value} (d : decode mi.2.1 pc = .ok (.dup, 1)) (k : am_R mi post fr lo c0 s0 (pc + 1) lv (v :: v :: st) sh I P) : am_R mi post fr lo c0 s0 pc lv (v :: st) sh I P :=
  am_pure k (fun h _ => am_okc (am_okh h) h) (fun {_ _ _ _ _ _ _ _ _ _ _ _ _ _ _ ad _} hx hb _ h kk => lv_dup hx hb d (am_catc ad (am_okh h)) kk)
theorem r_dup2 {v w : Value} (d : decode mi.2.1 pc = .ok (.dup2, 1)) (k : am_R mi post fr lo c0 s0 (pc + 1) lv (v :: w :: v :: w :: st) sh I P) : am_R mi post fr lo c0 s0 pc lv (v :: w :: st) sh I P :=
  am_pure k (fun h _ => am_okc (am_okh h) (am_okc (am_okh (am_okt h)) h)) (fun {_ _ _ _ _ _ _ _ _ _ _ _ _ _ _ ad _} hx hb _ h kk => lv_dup2_11 hx hb d (am_catc ad (am_okh h)) (am_catc ad (am_okh (am_okt h))) kk)
theorem r_pop {v : Value} (d : decode mi.2.1 pc = .ok (.pop, 1)) (k : am_R mi post fr lo c0 s0 (pc + 1) lv st sh I P) : am_R mi post fr lo c0 s0 pc lv (v :: st) sh I P :=
  am_pure k (fun h _ => am_okt h) (fun {_ _ _ _ _ _ _ _ _ _ _ _ _ _ _ ad _} hx hb _ h kk => lv_pop hx hb d (am_catc ad (am_okh h)) kk)
theorem r_goto {off : Int} (tgt : Nat) (d : decode mi.2.1 pc = .ok (.goto off, 3)) (ht : (pc : Int) + off = (tgt : Int)) (k : am_R mi post fr lo c0 s0 tgt lv st sh I P) : am_R mi post fr lo c0 s0 pc lv st sh I P :=
  am_pure k (fun h _ => h) (fun hx hb _ _ kk => lv_goto hx hb d ht kk)
theorem r_ifnull {x : Nat} {off : Int} (d : decode mi.2.1 pc = .ok (.ifnull off, 3)) (k : am_R mi post fr lo c0 s0 (pc + 3) lv st sh I P) : am_R mi post fr lo c0 s0 pc lv (.ref x :: st) sh I P :=
  am_pure k (fun h _ => am_okt h) (fun hx hb _ _ kk => lv_ifnull hx hb d kk)
theorem r_ifnullN {off : Int} (tgt : Nat) (d : decode mi.2.1 pc = .ok (.ifnull off, 3)) (ht : (pc : Int) + off = (tgt : Int)) (k : am_R mi post fr lo c0 s0 tgt lv st sh I P) : am_R mi post fr lo c0 s0 pc lv (.null :: st) sh I P :=
  am_pure k (fun h _ => am_okt h) (fun hx hb _ _ kk => lv_ifnullN hx hb d ht kk)
theorem r_ifnonnull {x : Nat} {off : Int} (tgt : Nat) (d : decode mi.2.1 pc = .ok (.ifnonnull off, 3)) (ht : (pc : Int) + off = (tgt : Int)) (k : am_R mi post fr lo c0 s0 tgt lv st sh I P) : am_R mi post fr lo c0 s0 pc lv (.ref x :: st) sh I P :=
  am_pure k (fun h _ => am_okt h) (fun hx hb _ _ kk => lv_ifnonnull hx hb d ht kk)
theorem r_ifnonnullN {off : Int} (d : decode mi.2.1 pc = .ok (.ifnonnull off, 3)) (k : am_R mi post fr lo c0 s0 (pc + 3) lv st sh I P) : am_R mi post fr lo c0 s0 pc lv (.null :: st) sh I P :=
  am_pure k (fun h _ => am_okt h) (fun hx hb _ _ kk => lv_ifnonnullN hx hb d kk)
theorem r_if_eq {x : Int32} {off : Int} (tgt : Nat) (d : decode mi.2.1 pc = .ok (.ifCond .eq off, 3)) (ht : (pc : Int) + off = (tgt : Int)) (k1 : x = 0 → am_R mi post fr lo c0 s0 tgt lv st sh I P) (k2 : ¬ x = 0 → am_R mi post fr lo c0 s0 (pc + 3) lv st sh I P) : am_R mi post fr lo c0 s0 pc lv (.int x :: st) sh I P :=
  am_two k1 k2 (fun h => am_okt h) (fun hx hb a b => lv_if_eq hx hb d ht a b)
theorem r_if_ne {x : Int32} {off : Int} (tgt : Nat) (d : decode mi.2.1 pc = .ok (.ifCond .ne off, 3)) (ht : (pc : Int) + off = (tgt : Int)) (k1 : ¬ x = 0 → am_R mi post fr lo c0 s0 tgt lv st sh I P) (k2 : x = 0 → am_R mi post fr lo c0 s0 (pc + 3) lv st sh I P) : am_R mi post fr lo c0 s0 pc lv (.int x :: st) sh I P :=
  am_two k2 k1 (fun h => am_okt h) (fun hx hb a b => lv_if_ne hx hb d ht b a)
theorem r_if_lt {x : Int32} {off : Int} (tgt : Nat) (d : decode mi.2.1 pc = .ok (.ifCond .lt off, 3)) (ht : (pc : Int) + off = (tgt : Int)) (k1 : x < 0 → am_R mi post fr lo c0 s0 tgt lv st sh I P) (k2 : ¬ x < 0 → am_R mi post fr lo c0 s0 (pc + 3) lv st sh I P) : am_R mi post fr lo c0 s0 pc lv (.int x :: st) sh I P :=
  am_two k1 k2 (fun h => am_okt h) (fun hx hb a b => lv_if_lt hx hb d ht a b)
theorem r_if_ge {x : Int32} {off : Int} (tgt : Nat) (d : decode mi.2.1 pc = .ok (.ifCond .ge off, 3)) (ht : (pc : Int) + off = (tgt : Int)) (k1 : 0 ≤ x → am_R mi post fr lo c0 s0 tgt lv st sh I P) (k2 : ¬ 0 ≤ x → am_R mi post fr lo c0 s0 (pc + 3) lv st sh I P) : am_R mi post fr lo c0 s0 pc lv (.int x :: st) sh I P :=
  am_two k1 k2 (fun h => am_okt h) (fun hx hb a b => lv_if_ge hx hb d ht a b)
theorem r_if_gt {x : Int32} {off : Int} (tgt : Nat) (d : decode mi.2.1 pc = .ok (.ifCond .gt off, 3)) (ht : (pc : Int) + off = (tgt : Int)) (k1 : 0 < x → am_R mi post fr lo c0 s0 tgt lv st sh I P) (k2 : ¬ 0 < x → am_R mi post fr lo c0 s0 (pc + 3) lv st sh I P) : am_R mi post fr lo c0 s0 pc lv (.int x :: st) sh I P :=
  am_two k1 k2 (fun h => am_okt h) (fun hx hb a b => lv_if_gt hx hb d ht a b)
theorem r_if_le {x : Int32} {off : Int} (tgt : Nat) (d : decode mi.2.1 pc = .ok (.ifCond .le off, 3)) (ht : (pc : Int) + off = (tgt : Int)) (k1 : x ≤ 0 → am_R mi post fr lo c0 s0 tgt lv st sh I P) (k2 : ¬ x ≤ 0 → am_R mi post fr lo c0 s0 (pc + 3) lv st sh I P) : am_R mi post fr lo c0 s0 pc lv (.int x :: st) sh I P :=
  am_two k1 k2 (fun h => am_okt h) (fun hx hb a b => lv_if_le hx hb d ht a b)
theorem r_icmp_eq {x y : Int32} {off : Int} (tgt : Nat) (d : decode mi.2.1 pc = .ok (.if_icmp .eq off, 3)) (ht : (pc : Int) + off = (tgt : Int)) (k1 : x = y → am_R mi post fr lo c0 s0 tgt lv st sh I P) (k2 : ¬ x = y → am_R mi post fr lo c0 s0 (pc + 3) lv st sh I P) : am_R mi post fr lo c0 s0 pc lv (.int y :: .int x :: st) sh I P :=
  am_two k1 k2 (fun h => am_okt (am_okt h)) (fun hx hb a b => lv_icmp_eq hx hb d ht a b)
theorem r_icmp_lt {x y : Int32} {off : Int} (tgt : Nat) (d : decode mi.2.1 pc = .ok (.if_icmp .lt off, 3)) (ht : (pc : Int) + off = (tgt : Int)) (k1 : x < y → am_R mi post fr lo c0 s0 tgt lv st sh I P) (k2 : ¬ x < y → am_R mi post fr lo c0 s0 (pc + 3) lv st sh I P) : am_R mi post fr lo c0 s0 pc lv (.int y :: .int x :: st) sh I P :=
  am_two k1 k2 (fun h => am_okt (am_okt h)) (fun hx hb a b => lv_icmp_lt hx hb d ht a b)
theorem r_icmp_ge {x y : Int32} {off : Int} (tgt : Nat) (d : decode mi.2.1 pc = .ok (.if_icmp .ge off, 3)) (ht : (pc : Int) + off = (tgt : Int)) (k1 : y ≤ x → am_R mi post fr lo c0 s0 tgt lv st sh I P) (k2 : ¬ y ≤ x → am_R mi post fr lo c0 s0 (pc + 3) lv st sh I P) : am_R mi post fr lo c0 s0 pc lv (.int y :: .int x :: st) sh I P :=
  am_two k1 k2 (fun h => am_okt (am_okt h)) (fun hx hb a b => lv_icmp_ge hx hb d ht a b)
theorem r_icmp_gt {x y : Int32} {off : Int} (tgt : Nat) (d : decode mi.2.1 pc = .ok (.if_icmp .gt off, 3)) (ht : (pc : Int) + off = (tgt : Int)) (k1 : y < x → am_R mi post fr lo c0 s0 tgt lv st sh I P) (k2 : ¬ y < x → am_R mi post fr lo c0 s0 (pc + 3) lv st sh I P) : am_R mi post fr lo c0 s0 pc lv (.int y :: .int x :: st) sh I P :=
  am_two k1 k2 (fun h => am_okt (am_okt h)) (fun hx hb a b => lv_icmp_gt hx hb d ht a b)
theorem r_icmp_le {x y : Int32} {off : Int} (tgt : Nat) (d : decode mi.2.1 pc = .ok (.if_icmp .le off, 3)) (ht : (pc : Int) + off = (tgt : Int)) (k1 : x ≤ y → am_R mi post fr lo c0 s0 tgt lv st sh I P) (k2 : ¬ x ≤ y → am_R mi post fr lo c0 s0 (pc + 3) lv st sh I P) : am_R mi post fr lo c0 s0 pc lv (.int y :: .int x :: st) sh I P :=
  am_two k1 k2 (fun h => am_okt (am_okt h)) (fun hx hb a b => lv_icmp_le hx hb d ht a b)
theorem r_icmp_ne {x y : Int32} {off : Int} (tgt : Nat) (d : decode mi.2.1 pc = .ok (.if_icmp .ne off, 3)) (ht : (pc : Int) + off = (tgt : Int)) (k1 : ¬ x = y → am_R mi post fr lo c0 s0 tgt lv st sh I P) (k2 : x = y → am_R mi post fr lo c0 s0 (pc + 3) lv st sh I P) : am_R mi post fr lo c0 s0 pc lv (.int y :: .int x :: st) sh I P :=
  am_two k2 k1 (fun h => am_okt (am_okt h)) (fun hx hb a b => lv_icmp_ne hx hb d ht b a)
theorem r_tabIn {dflt lw hi : Int} {offs : Array Int} {len : Nat} {x : Int32} {off : Int} (tgt : Nat) (d : decode mi.2.1 pc = .ok (.tableswitch dflt lw hi offs, len)) (h1 : ¬ x.toInt < lw) (h2 : ¬ hi < x.toInt) (ho : offs[(x.toInt - lw).toNat]? = some off) (ht : (pc : Int) + off = (tgt : Int)) (k : am_R mi post fr lo c0 s0 tgt lv st sh I P) : am_R mi post fr lo c0 s0 pc lv (.int x :: st) sh I P :=
  am_pure k (fun h _ => am_okt h) (fun hx hb _ _ kk => lv_tableIn hx hb d h1 h2 ho ht kk)
theorem r_tabOut {dflt lw hi : Int} {offs : Array Int} {len : Nat} {x : Int32} (tgt : Nat) (d : decode mi.2.1 pc = .ok (.tableswitch dflt lw hi offs, len)) (h : x.toInt < lw ∨ hi < x.toInt) (ht : (pc : Int) + dflt = (tgt : Int)) (k : am_R mi post fr lo c0 s0 tgt lv st sh I P) : am_R mi post fr lo c0 s0 pc lv (.int x :: st) sh I P :=
  am_pure k (fun h _ => am_okt h) (fun hx hb _ _ kk => lv_tableOut hx hb d h ht kk)
/-! stores into the slots of a frame -/
def am_ll (ad : Nat → Nat) (lv : List (Option Value)) : List (Nat × Value) := (List.range lv.length).filterMap (fun i => match lv[i]? with
  | some (some v) => some (i, cv ad v)
  | _ => none)
theorem am_ll_mem {ad : Nat → Nat} {lv : List (Option Value)} {i : Nat} {v : Value} (h : lv[i]? = some (some v)) : (i, cv ad v) ∈ am_ll ad lv := by
  have hl := (List.getElem?_eq_some_iff.mp h).1
  refine List.mem_filterMap.mpr ⟨i, List.mem_range.mpr hl, ?_⟩
  rw [h]
theorem am_L.has {ad : Nat → Nat} {ls : Array Slot} {n : Nat} {lv : List (Option Value)} (h : am_L ad ls n lv) : lv_has ls n (am_ll ad lv) := by
  obtain ⟨h1, h2, h3, h4⟩ := h
  refine ⟨h2, h3, fun q hq => ?_⟩
  obtain ⟨i, -, hi⟩ := List.mem_filterMap.mp hq
  cases hv : lv[i]? with
  | none => rw [hv] at hi; cases hi
  | some o =>
    cases o with
    | none => rw [hv] at hi; cases hi
    | some v =>
      rw [hv] at hi
      cases hi
      exact h4 i v hv
theorem am_L.set {ad : Nat → Nat} {ls ls' : Array Slot} {n i : Nat} {lv : List (Option Value)} {v : Value} {sh : ASh} (h : am_L ad ls n lv) (hok : ∀ (i : Nat) (v : Value), lv[i]? = some (some v) → am_ok sh v) (hi : i < n)
    (h2 : lv_has ls' n ((i, cv ad v) :: (am_ll ad lv).filter (fun q => !(q.1 == i) && !(q.1 + 1 == i && q.2.category == 2)))) : am_L ad ls' n (lv.set i (some v)) := by
  obtain ⟨g1, g2, g3⟩ := h2
  refine ⟨by rw [List.length_set]; exact h.1, g1, g2, fun j w hj => ?_⟩
  by_cases hji : j = i
  · subst hji
    rw [List.getElem?_set_self (by rw [h.1]; exact hi)] at hj
    cases hj
    exact g3 _ List.mem_cons_self
  · rw [List.getElem?_set_ne (Ne.symm hji)] at hj
    refine g3 (j, cv ad w) (List.mem_cons_of_mem _ (List.mem_filter.mpr ⟨am_ll_mem hj, ?_⟩))
    simp [hji, am_catc ad (hok j w hj)]
theorem am_ok_set {lv : List (Option Value)} {sh : ASh} {i : Nat} {v : Value} (hok : ∀ (i : Nat) (v : Value), lv[i]? = some (some v) → am_ok sh v) (hv : am_ok sh v) : ∀ (j : Nat) (w : Value), (lv.set i (some v))[j]? = some (some w) → am_ok sh w := fun j w hj => by
  by_cases hji : j = i
  · subst hji
    have hl : j < lv.length := by
      have := (List.getElem?_eq_some_iff.mp hj).1
      rw [List.length_set] at this
      exact this
    rw [List.getElem?_set_self hl] at hj
    cases hj
    exact hv
  · rw [List.getElem?_set_ne (Ne.symm hji)] at hj
    exact hok j w hj
theorem am_lvlt {ad : Nat → Nat} {ls : Array Slot} {n i : Nat} {lv : List (Option Value)} (h : am_L ad ls n lv) (hi : i < lv.length) : i < n := by rw [← h.1]; exact hi
theorem r_istore_n {j : Fin 4} {x : Int32} (d : decode mi.2.1 pc = .ok (.istore_n j, 1)) (hj : (j : Nat) < lv.length) (k : am_R mi post fr lo c0 s0 (pc + 1) (lv.set (j : Nat) (some (.int x))) st sh I P) : am_R mi post fr lo c0 s0 pc lv (.int x :: st) sh I P := by
  intro l p e R s m args below meth c D t A sh0 ad0 ad mc ms H locs cells slots ls C hc hs X
  obtain ⟨x1, x2, x3, x4, x5, x6⟩ := X
  exact lv_istore_n C.1 C.2.1 d rfl x4.has (am_lvlt x4 hj) rfl (fun ls' hl' => k l p e R s m args below meth c D t A sh0 ad0 ad mc ms H locs cells slots ls' C hc hs ⟨x1, x2, x3, x4.set (v := .int x) x6 (am_lvlt x4 hj) hl', am_okt x5, am_ok_set x6 (am_okh x5)⟩)
theorem r_istore {j : Nat} {x : Int32} (d : decode mi.2.1 pc = .ok (.istore j, 2)) (hj : j < lv.length) (k : am_R mi post fr lo c0 s0 (pc + 2) (lv.set j (some (.int x))) st sh I P) : am_R mi post fr lo c0 s0 pc lv (.int x :: st) sh I P := by
  intro l p e R s m args below meth c D t A sh0 ad0 ad mc ms H locs cells slots ls C hc hs X
  obtain ⟨x1, x2, x3, x4, x5, x6⟩ := X
  exact lv_istore C.1 C.2.1 d x4.has (am_lvlt x4 hj) rfl (fun ls' hl' => k l p e R s m args below meth c D t A sh0 ad0 ad mc ms H locs cells slots ls' C hc hs ⟨x1, x2, x3, x4.set (v := .int x) x6 (am_lvlt x4 hj) hl', am_okt x5, am_ok_set x6 (am_okh x5)⟩)
theorem r_astore_n {j : Fin 4} {x : Nat} (d : decode mi.2.1 pc = .ok (.astore_n j, 1)) (hj : (j : Nat) < lv.length) (k : am_R mi post fr lo c0 s0 (pc + 1) (lv.set (j : Nat) (some (.ref x))) st sh I P) : am_R mi post fr lo c0 s0 pc lv (.ref x :: st) sh I P := by
  intro l p e R s m args below meth c D t A sh0 ad0 ad mc ms H locs cells slots ls C hc hs X
  obtain ⟨x1, x2, x3, x4, x5, x6⟩ := X
  exact lv_astore_n C.1 C.2.1 d rfl x4.has (am_lvlt x4 hj) rfl (fun ls' hl' => k l p e R s m args below meth c D t A sh0 ad0 ad mc ms H locs cells slots ls' C hc hs ⟨x1, x2, x3, x4.set (v := .ref x) x6 (am_lvlt x4 hj) hl', am_okt x5, am_ok_set x6 (am_okh x5)⟩)
theorem r_astore {j : Nat} {x : Nat} (d : decode mi.2.1 pc = .ok (.astore j, 2)) (hj : j < lv.length) (k : am_R mi post fr lo c0 s0 (pc + 2) (lv.set j (some (.ref x))) st sh I P) : am_R mi post fr lo c0 s0 pc lv (.ref x :: st) sh I P := by
  intro l p e R s m args below meth c D t A sh0 ad0 ad mc ms H locs cells slots ls C hc hs X
  obtain ⟨x1, x2, x3, x4, x5, x6⟩ := X
  exact lv_astore C.1 C.2.1 d x4.has (am_lvlt x4 hj) rfl (fun ls' hl' => k l p e R s m args below meth c D t A sh0 ad0 ad mc ms H locs cells slots ls' C hc hs ⟨x1, x2, x3, x4.set (v := .ref x) x6 (am_lvlt x4 hj) hl', am_okt x5, am_ok_set x6 (am_okh x5)⟩)
theorem r_iinc {j : Nat} {n : Int} {x v : Int32} (d : decode mi.2.1 pc = .ok (.iinc j n, 3)) (h : lv[j]? = some (some (.int x))) (hv : x + Int32.ofInt n = v) (k : am_R mi post fr lo c0 s0 (pc + 3) (lv.set j (some (.int v))) st sh I P) : am_R mi post fr lo c0 s0 pc lv st sh I P := by
  intro l p e R s m args below meth c D t A sh0 ad0 ad mc ms H locs cells slots ls C hc hs X
  obtain ⟨x1, x2, x3, x4, x5, x6⟩ := X
  have hj : j < lv.length := (List.getElem?_eq_some_iff.mp h).1
  obtain ⟨q, hq⟩ := List.getElem?_of_mem (am_ll_mem (ad := ad) h)
  exact lv_iinc C.1 C.2.1 d x4.has hq hv (am_lvlt x4 hj) rfl (fun ls' hl' => k l p e R s m args below meth c D t A sh0 ad0 ad mc ms H locs cells slots ls' C hc hs ⟨x1, x2, x3, x4.set (v := .int v) x6 (am_lvlt x4 hj) hl', x5, am_ok_set x6 trivial⟩)
end AMR
end
section
/-! rules of the abstract machine that read or write cells -/
theorem am_at.kept {D : va_G} {t : Nat → ClassId} {ad : Nat → Nat} {q : Nat × Nat} {Ik : Nat → Int32} {Pk : Nat → Option Nat} {a : Nat} {H H1 : Heap} (h : am_at D t ad q Ik Pk a H) (hq : H1[a]? = H[a]?) : am_at D t ad q Ik Pk a H1 := by
  unfold am_at at h ⊢
  split at h
  · trivial
  · obtain ⟨r, h1, h2⟩ := h
    exact ⟨r, h1, h2.kept hq⟩
  · rw [hq]; exact h
  · rw [hq]; exact h
  · rw [hq]; exact h
  · rw [hq]; exact h
  · exact h.elim
theorem am_at.lt {D : va_G} {t : Nat → ClassId} {ad : Nat → Nat} {q : Nat × Nat} {Ik : Nat → Int32} {Pk : Nat → Option Nat} {a : Nat} {H : Heap} (h : am_at D t ad q Ik Pk a H) (hq : q.1 ≠ 0) : a < H.size := by
  unfold am_at at h
  split at h
  · next e => exact absurd e hq
  · obtain ⟨r, h1, cell, h2, -⟩ := h
    exact (Array.getElem?_eq_some_iff.mp h2).1
  · exact (Array.getElem?_eq_some_iff.mp h).1
  · exact (Array.getElem?_eq_some_iff.mp h).1
  · exact (Array.getElem?_eq_some_iff.mp h).1
  · exact (Array.getElem?_eq_some_iff.mp h).1
  · exact h.elim
theorem am_W.at {D : va_G} {t : Nat → ClassId} {A : Nat → Prop} {ad : Nat → Nat} {sh : ASh} {I : AIn} {P : APt} {H : Heap} (h : am_W D t A ad sh I P H) {k : Nat} {q : Nat × Nat} (e : sh k = q) : am_at D t ad q (I k) (P k) (ad k) H := e ▸ h.2.2.2 k
theorem am_W.setI {D : va_G} {t : Nat → ClassId} {A : Nat → Prop} {ad : Nat → Nat} {sh : ASh} {I : AIn} {P : APt} {H H1 : Heap} (h : am_W D t A ad sh I P H) {q : Nat} {f : Nat → Int32} (hq : (sh q).1 ≠ 0) (hat : am_at D t ad (sh q) f (P q) (ad q) H1) (oq : ∀ a, a ≠ ad q → H1[a]? = H[a]?) : am_W D t A ad sh (va_up I q f) P H1 := by
  refine ⟨h.1, h.2.1, h.2.2.1, fun k => ?_⟩
  by_cases hk : k = q
  · subst hk
    simp only [va_up, if_true]
    exact hat
  · have e : va_up I q f k = I k := by simp [va_up, hk]
    rw [e]
    by_cases hb : (sh k).1 = 0
    · unfold am_at
      rw [hb]
      trivial
    · exact (h.2.2.2 k).kept (oq _ (fun z => hk (h.2.1 k q hb hq z)))
theorem am_W.setP {D : va_G} {t : Nat → ClassId} {A : Nat → Prop} {ad : Nat → Nat} {sh : ASh} {I : AIn} {P : APt} {H H1 : Heap} (h : am_W D t A ad sh I P H) {q : Nat} {f : Nat → Option Nat} (hq : (sh q).1 ≠ 0) (hf : ∀ j z, f j = some z → (sh z).1 ≠ 0) (hat : am_at D t ad (sh q) (I q) f (ad q) H1) (oq : ∀ a, a ≠ ad q → H1[a]? = H[a]?) : am_W D t A ad sh I (va_up P q f) H1 := by
  refine ⟨h.1, h.2.1, fun k j z hk hz => ?_, fun k => ?_⟩
  · by_cases hkq : k = q
    · subst hkq
      simp only [va_up, if_true] at hz
      exact hf j z hz
    · simp only [va_up, hkq, if_false] at hz
      exact h.2.2.1 k j z hk hz
  · by_cases hk : k = q
    · subst hk
      simp only [va_up, if_true]
      exact hat
    · have e : va_up P q f k = P k := by simp [va_up, hk]
      rw [e]
      by_cases hb : (sh k).1 = 0
      · unfold am_at
        rw [hb]
        trivial
      · exact (h.2.2.2 k).kept (oq _ (fun z => hk (h.2.1 k q hb hq z)))
theorem am_rf_up {sh : ASh} {ad : Nat → Nat} {k a : Nat} {q : Option Nat} (hk : (sh k).1 = 0) (hq : ∀ z, q = some z → (sh z).1 ≠ 0) : am_rf (va_up ad k a) q = am_rf ad q := by
  cases q with
  | none => rfl
  | some z =>
    have hz : z ≠ k := fun e => hq z rfl (by rw [e]; exact hk)
    simp [am_rf, va_up, hz]
theorem cv_up {sh : ASh} {ad : Nat → Nat} {k a : Nat} {v : Value} (hk : (sh k).1 = 0) (hv : am_ok sh v) : cv (va_up ad k a) v = cv ad v := by
  cases v with
  | ref z =>
    have hz : z ≠ k := fun e => hv (by rw [e]; exact hk)
    simp [cv, va_up, hz]
  | _ => rfl
theorem am_W.born {D : va_G} {t : Nat → ClassId} {A : Nat → Prop} {ad : Nat → Nat} {sh : ASh} {I : AIn} {P : APt} {H H1 : Heap} (h : am_W D t A ad sh I P H) {k : Nat} {q : Nat × Nat} (hk : (sh k).1 = 0) (hA : A H.size) (hat : am_at D t (va_up ad k H.size) q (fun _ => 0) (fun _ => none) H.size H1) (o1 : ∀ a, a < H.size → H1[a]? = H[a]?) :
    am_W D t A (va_up ad k H.size) (va_up sh k q) (va_up I k (fun _ => 0)) (va_up P k (fun _ => none)) H1 := by
  have lt : ∀ z, (sh z).1 ≠ 0 → ad z < H.size := fun z hz => (h.2.2.2 z).lt hz
  refine ⟨fun z hz => ?_, fun i j hi hj e => ?_, fun z j y hz hy => ?_, fun z => ?_⟩
  · by_cases e : z = k
    · subst e
      simp only [va_up, if_true]
      exact hA
    · simp only [va_up, e, if_false] at hz ⊢
      exact h.1 z hz
  · by_cases ei : i = k
    · by_cases ej : j = k
      · rw [ei, ej]
      · simp only [va_up, ei, ej, if_true, if_false] at hj e
        have := lt j hj
        omega
    · by_cases ej : j = k
      · simp only [va_up, ei, ej, if_true, if_false] at hi e
        have := lt i hi
        omega
      · simp only [va_up, ei, ej, if_false] at hi hj e
        exact h.2.1 i j hi hj e
  · by_cases ez : z = k
    · simp only [va_up, ez, if_true] at hy
      cases hy
    · simp only [va_up, ez, if_false] at hz hy
      have hb := h.2.2.1 z j y hz hy
      have ey : y ≠ k := fun e => hb (by rw [e]; exact hk)
      simp only [va_up, ey, if_false]
      exact hb
  · by_cases ez : z = k
    · subst ez
      simp only [va_up, if_true]
      exact hat
    · have e1 : va_up sh k q z = sh z := by simp [va_up, ez]
      have e2 : va_up I k (fun _ => 0) z = I z := by simp [va_up, ez]
      have e3 : va_up P k (fun _ => none) z = P z := by simp [va_up, ez]
      have e4 : va_up ad k H.size z = ad z := by simp [va_up, ez]
      rw [e1, e2, e3, e4]
      by_cases hb : (sh z).1 = 0
      · unfold am_at
        rw [hb]
        trivial
      · have hr : ∀ j, am_rf (va_up ad k H.size) (P z j) = am_rf ad (P z j) := fun j => am_rf_up hk (fun y hy => h.2.2.1 z j y hb hy)
        have h9 := (h.2.2.2 z).kept (o1 _ (lt z hb))
        unfold am_at at h9 ⊢
        split at h9
        · trivial
        · obtain ⟨r, g1, g2⟩ := h9
          refine ⟨r, g1, g2.to fun j _ => ?_⟩
          simp only [am_ov, hr]
        · exact h9
        · exact h9
        · simp only [hr]; exact h9
        · simp only [hr]; exact h9
        · exact h9
theorem am_E.up {sh0 : ASh} {ad0 : Nat → Nat} {sh : ASh} {ad : Nat → Nat} {k a : Nat} {q : Nat × Nat} (h : am_E sh0 ad0 sh ad) (hk : (sh k).1 = 0) : am_E sh0 ad0 (va_up sh k q) (va_up ad k a) := fun z hz => by
  have h1 := h z hz
  have e : z ≠ k := fun e => h1.1 (by rw [e]; exact hk)
  simp only [va_up, e, if_false]
  exact h1
theorem am_ok_up {sh : ASh} {k : Nat} {q : Nat × Nat} {v : Value} (hk : (sh k).1 = 0) (h : am_ok sh v) : am_ok (va_up sh k q) v := by
  cases v with
  | ref z =>
    have e : z ≠ k := fun e => h (by rw [e]; exact hk)
    simp only [am_ok, va_up, e, if_false]
    exact h
  | _ => exact h
/-- a field of a kind of object: its place in the constants, and what the tables say of it -/
def am_F (own : String) (idx ci f : Nat) (fin : Bool) : Prop := ∃ (C : String) (T : u_T) (N : Nat), am_cl[ci]? = some (C, T, N) ∧ f < N ∧ (∀ w ∈ u_ws C T N, w ∈ am_tb) ∧ Cond.fieldLink own idx (T f).1 (T f).2.1 (T f).2.2.1 ∈ am_tb ∧ (T f).2.2.2 = fin ∧ (∀ k, k < N → parseFieldDescriptor (T k).2.2.1 = some (am_ty ci k)) ∧ (∀ a, a < N → ∀ b, b < N → a ≠ b → (T a).2.1 ≠ (T b).2.1) ∧ (fin = true → (T f).1 = own)
def am_G (own : String) (idx ci f : Nat) : Prop := ∃ (C : String) (T : u_T) (N : Nat), am_cl[ci]? = some (C, T, N) ∧ f < N ∧ (∀ w ∈ u_ws C T N, w ∈ am_tb) ∧ Cond.fieldLink own idx (T f).1 (T f).2.1 (T f).2.2.1 ∈ am_tb
theorem am_F.g {own : String} {idx ci f : Nat} {fin : Bool} (h : am_F own idx ci f fin) : am_G own idx ci f := by
  obtain ⟨C, T, N, h1, h2, h3, h4, -⟩ := h
  exact ⟨C, T, N, h1, h2, h3, h4⟩
section AMH
variable {mi : MI} {post : APo} {fr lo c0 s0 pc : Nat} {lv : List (Option Value)} {st : List Value} {sh : ASh} {I : AIn} {P : APt}
theorem r_iaload {q n : Nat} {x : Int32} (i : Nat) (d : decode mi.2.1 pc = .ok (.iaload, 1)) (hs : sh q = (2, n)) (hx : x = nI i) (hi : i < n) (hn : n < 2147483648) (k : am_R mi post fr lo c0 s0 (pc + 1) lv (.int (I q i) :: st) sh I P) : am_R mi post fr lo c0 s0 pc lv (.int x :: .ref q :: st) sh I P := by
  intro l p e R s m args below meth c D t A sh0 ad0 ad mc ms H locs cells slots ls C hc0 hs0 X
  obtain ⟨hx0, hb, hml, hr, hown, hts, hlk, hnm, hroom, hN, hA⟩ := id C
  obtain ⟨x1, x2, x3, x4, x5, x6⟩ := X
  subst hx
  have hc : H[ad q]? = some (arrV (t 0) n (fun j => .int (I q j))) := x1.at hs
  exact W.iald (v := .int (I q i)) hx0 hb hc ((hN.1.2 0 _ rfl).1 n _) (fun h => by cases h) (by show ¬ (_ ∨ (arrV _ _ _).slots.size ≤ _); rw [arrV_size]; exact vp_in_nI hi hn) (by rw [nI_clamp (by omega)]; exact arrV_read _ _ hi) rfl rfl d
    (k l p e R s m args below meth c D t A sh0 ad0 ad mc ms H locs cells slots ls C hc0 hs0 ⟨x1, x2, x3, x4, am_okc trivial (am_okt (am_okt x5)), x6⟩)
theorem r_baload {q n : Nat} {x : Int32} (i : Nat) (d : decode mi.2.1 pc = .ok (.baload, 1)) (hs : sh q = (3, n)) (hx : x = nI i) (hi : i < n) (hn : n < 2147483648) (k : am_R mi post fr lo c0 s0 (pc + 1) lv (.int (I q i) :: st) sh I P) : am_R mi post fr lo c0 s0 pc lv (.int x :: .ref q :: st) sh I P := by
  intro l p e R s m args below meth c D t A sh0 ad0 ad mc ms H locs cells slots ls C hc0 hs0 X
  obtain ⟨hx0, hb, hml, hr, hown, hts, hlk, hnm, hroom, hN, hA⟩ := id C
  obtain ⟨x1, x2, x3, x4, x5, x6⟩ := X
  subst hx
  have hc : H[ad q]? = some (arrV (t 1) n (fun j => .int (I q j))) := x1.at hs
  exact W.zald (v := .int (I q i)) hx0 hb hc ((hN.1.2 1 _ rfl).1 n _) (fun h => by cases h) (by show ¬ (_ ∨ (arrV _ _ _).slots.size ≤ _); rw [arrV_size]; exact vp_in_nI hi hn) (by rw [nI_clamp (by omega)]; exact arrV_read _ _ hi) rfl rfl d
    (k l p e R s m args below meth c D t A sh0 ad0 ad mc ms H locs cells slots ls C hc0 hs0 ⟨x1, x2, x3, x4, am_okc trivial (am_okt (am_okt x5)), x6⟩)
theorem am_arrset (c : ClassId) (n i : Nat) (f : Nat → Int32) (y : Int32) : (arrV c n (fun j => .int (f j))).setSlot i (.int y) = arrV c n (fun j => .int (upd f i y j)) := by
  rw [arrV_store]
  congr 1
  funext j
  by_cases hj : j = i <;> simp [updV, upd, hj]
theorem r_iastore {q n : Nat} {x y : Int32} (i : Nat) (d : decode mi.2.1 pc = .ok (.iastore, 1)) (hs : sh q = (2, n)) (hx : x = nI i) (hi : i < n) (hn : n < 2147483648) (k : am_R mi post fr lo c0 s0 (pc + 1) lv st sh (va_up I q (upd (I q) i y)) P) : am_R mi post fr lo c0 s0 pc lv (.int y :: .int x :: .ref q :: st) sh I P := by
  intro l p e R s m args below meth c D t A sh0 ad0 ad mc ms H locs cells slots ls C hc0 hs0 X
  obtain ⟨hx0, hb, hml, hr, hown, hts, hlk, hnm, hroom, hN, hA⟩ := id C
  obtain ⟨x1, x2, x3, x4, x5, x6⟩ := X
  subst hx
  have hc : H[ad q]? = some (arrV (t 0) n (fun j => .int (I q j))) := x1.at hs
  refine W.iast (x := y) hx0 hb hc ((hN.1.2 0 _ rfl).1 n _) (fun h => by cases h) (by show ¬ (_ ∨ (arrV _ _ _).slots.size ≤ _); rw [arrV_size]; exact vp_in_nI hi hn) rfl rfl d (fun H1 e1 z1 o1 => ?_)
  rw [nI_clamp (by omega), am_arrset] at e1
  refine k l p e R s m args below meth c D t A sh0 ad0 ad mc ms H1 _ cells slots ls C hc0 hs0 ⟨x1.setI (by rw [hs]; exact Nat.succ_ne_zero _) (by rw [hs]; exact e1) o1, x2, x3.put z1 o1 (x1.1 q (by rw [hs]; exact Nat.succ_ne_zero _)), x4, am_okt (am_okt (am_okt x5)), x6⟩
theorem r_bastore {q n : Nat} {x y : Int32} (i : Nat) (d : decode mi.2.1 pc = .ok (.bastore, 1)) (hs : sh q = (3, n)) (hx : x = nI i) (hi : i < n) (hn : n < 2147483648) (hy : narrow .boolean (.int y) = .int y) (k : am_R mi post fr lo c0 s0 (pc + 1) lv st sh (va_up I q (upd (I q) i y)) P) : am_R mi post fr lo c0 s0 pc lv (.int y :: .int x :: .ref q :: st) sh I P := by
  intro l p e R s m args below meth c D t A sh0 ad0 ad mc ms H locs cells slots ls C hc0 hs0 X
  obtain ⟨hx0, hb, hml, hr, hown, hts, hlk, hnm, hroom, hN, hA⟩ := id C
  obtain ⟨x1, x2, x3, x4, x5, x6⟩ := X
  subst hx
  have hc : H[ad q]? = some (arrV (t 1) n (fun j => .int (I q j))) := x1.at hs
  refine W.zast (x := y) hx0 hb hc ((hN.1.2 1 _ rfl).1 n _) (fun h => by cases h) (by show ¬ (_ ∨ (arrV _ _ _).slots.size ≤ _); rw [arrV_size]; exact vp_in_nI hi hn) rfl rfl d (fun H1 e1 z1 o1 => ?_)
  rw [nI_clamp (by omega), hy, am_arrset] at e1
  refine k l p e R s m args below meth c D t A sh0 ad0 ad mc ms H1 _ cells slots ls C hc0 hs0 ⟨x1.setI (by rw [hs]; exact Nat.succ_ne_zero _) (by rw [hs]; exact e1) o1, x2, x3.put z1 o1 (x1.1 q (by rw [hs]; exact Nat.succ_ne_zero _)), x4, am_okt (am_okt (am_okt x5)), x6⟩
theorem am_obj {D : va_G} {t : Nat → ClassId} {A : Nat → Prop} {ad : Nat → Nat} {sh : ASh} {I : AIn} {P : APt} {H : Heap} {q ci : Nat} {C : String} {T : u_T} {N : Nat} (h : am_W D t A ad sh I P H) (hs : sh q = (1, ci)) (hc : am_cl[ci]? = some (C, T, N)) : va_P D am_cl [(ad q, .inr (ci, (List.range N).map (am_ov ci ad (I q) (P q))))] H := by
  intro k x hk
  have hz : k < 1 := (List.getElem?_eq_some_iff.mp hk).1
  rw [show k = 0 by omega] at hk
  cases hk
  obtain ⟨r, h1, h2⟩ := h.at hs
  have hr : r = (C, T, N) := Option.some.inj (h1.symm.trans hc)
  subst hr
  refine ⟨_, hc, h2.to fun j hj => ?_⟩
  have hj' : j < N := hj
  simp [vp_V, hj']
theorem r_getI {q ci f idx : Nat} (d : decode mi.2.1 pc = .ok (.getfield idx, 3)) (hF : am_G mi.1.cls idx ci f) (hs : sh q = (1, ci)) (ht : am_isR (am_ty ci f) = false) (k : am_R mi post fr lo c0 s0 (pc + 3) lv (.int (I q f) :: st) sh I P) : am_R mi post fr lo c0 s0 pc lv (.ref q :: st) sh I P := by
  intro l p e R s m args below meth c D t A sh0 ad0 ad mc ms H locs cells slots ls C hc0 hs0 X
  obtain ⟨hx0, hb, hml, hr, hown, hts, hlk, hnm, hroom, hN, hA⟩ := id C
  obtain ⟨x1, x2, x3, x4, x5, x6⟩ := X
  obtain ⟨C1, T1, N1, g1, g2, g3, g4⟩ := hF
  exact va_get (v := .int (I q f)) hx0 hb hts g3 hown hN.1 (am_obj x1 hs g1) 0 rfl g1 f g2 (hts _ g4) (fun _ h9 => h9) (by simp [g2, am_ov, ht]) d
    (k l p e R s m args below meth c D t A sh0 ad0 ad mc ms H locs cells slots ls C hc0 hs0 ⟨x1, x2, x3, x4, am_okc trivial (am_okt x5), x6⟩)
theorem r_getP {q ci f idx z : Nat} (d : decode mi.2.1 pc = .ok (.getfield idx, 3)) (hF : am_G mi.1.cls idx ci f) (hs : sh q = (1, ci)) (ht : am_isR (am_ty ci f) = true) (hp : P q f = some z) (k : am_R mi post fr lo c0 s0 (pc + 3) lv (.ref z :: st) sh I P) : am_R mi post fr lo c0 s0 pc lv (.ref q :: st) sh I P := by
  intro l p e R s m args below meth c D t A sh0 ad0 ad mc ms H locs cells slots ls C hc0 hs0 X
  obtain ⟨hx0, hb, hml, hr, hown, hts, hlk, hnm, hroom, hN, hA⟩ := id C
  obtain ⟨x1, x2, x3, x4, x5, x6⟩ := X
  obtain ⟨C1, T1, N1, g1, g2, g3, g4⟩ := hF
  exact va_get (v := .ref (ad z)) hx0 hb hts g3 hown hN.1 (am_obj x1 hs g1) 0 rfl g1 f g2 (hts _ g4) (fun _ h9 => h9) (by simp [g2, am_ov, ht, hp, am_rf]) d
    (k l p e R s m args below meth c D t A sh0 ad0 ad mc ms H locs cells slots ls C hc0 hs0 ⟨x1, x2, x3, x4, am_okc (x1.2.2.1 q f z (by rw [hs]; exact Nat.one_ne_zero) hp) (am_okt x5), x6⟩)
theorem am_ov_setI {ci f : Nat} {ad : Nat → Nat} {Ik : Nat → Int32} {Pk : Nat → Option Nat} {y : Int32} (ht : am_isR (am_ty ci f) = false) (j : Nat) : updV (am_ov ci ad Ik Pk) f (.int y) j = am_ov ci ad (upd Ik f y) Pk j := by
  by_cases hj : j = f
  · subst hj
    simp [updV, am_ov, upd, ht]
  · simp [updV, am_ov, upd, hj]
theorem am_ov_setP {ci f : Nat} {ad : Nat → Nat} {Ik : Nat → Int32} {Pk : Nat → Option Nat} {y : Option Nat} (ht : am_isR (am_ty ci f) = true) (j : Nat) : updV (am_ov ci ad Ik Pk) f (am_rf ad y) j = am_ov ci ad Ik (va_up Pk f y) j := by
  by_cases hj : j = f
  · subst hj
    simp [updV, am_ov, va_up, ht]
  · simp [updV, am_ov, va_up, hj]
theorem r_putI {q ci f idx : Nat} {y : Int32} (d : decode mi.2.1 pc = .ok (.putfield idx, 3)) (hF : am_F mi.1.cls idx ci f false) (hs : sh q = (1, ci)) (ht : am_isR (am_ty ci f) = false) (hn : narrow (am_ty ci f) (.int y) = .int y) (hfit : fits (am_ty ci f) (.int y) = true) (k : am_R mi post fr lo c0 s0 (pc + 3) lv st sh (va_up I q (upd (I q) f y)) P) : am_R mi post fr lo c0 s0 pc lv (.int y :: .ref q :: st) sh I P := by
  intro l p e R s m args below meth c D t A sh0 ad0 ad mc ms H locs cells slots ls C hc0 hs0 X
  obtain ⟨hx0, hb, hml, hr, hown, hts, hlk, hnm, hroom, hN, hA⟩ := id C
  obtain ⟨x1, x2, x3, x4, x5, x6⟩ := X
  obtain ⟨C1, T1, N1, g1, g2, g3, g4, g5, g6, g7, -⟩ := hF
  have hap := va_apart (own := mi.1.cls) hts g3 (am_ty ci) g6 g7 hN.1 g1
  obtain ⟨r, h1, cell, q1, q2, q3, q4⟩ := x1.at hs
  have hr : r = (C1, T1, N1) := Option.some.inj (h1.symm.trans g1)
  subst hr
  obtain ⟨hS, hfc, kC, hkC, hkind⟩ := hN.1.1 ci _ g1
  obtain ⟨cf, kf, fi, fd, hi, hsl⟩ := hS f g2
  have hlay := hts _ (g3 _ (u_in_lay g2))
  unfold u_lay at hlay
  rw [if_neg (by rw [g5]; decide)] at hlay
  have hst := (u_facts hfc hkC (u_lays hts g3 g2) hi).1
  have h6 := u_store hfc hkC hkind hlay hi (g6 f g2) hn hfit
  refine W.putK hx0 hb (f := fd) ⟨hown, hts _ g4, ⟨_, _, _, hi⟩, hst⟩ (by rw [q2]; exact h6) q1 q3 (by rw [hsl]; exact k2_hasslot (q4 f g2)) rfl rfl d fun H1 e1 e2 e3 => ?_
  rw [hsl] at e1 ⊢
  refine k l p e R s m args below meth c D t A sh0 ad0 ad mc ms H1 _ cells slots ls C hc0 hs0 ⟨x1.setI (by rw [hs]; exact Nat.one_ne_zero) (by rw [hs]; exact ⟨_, g1, t_OB.to (V := updV (am_ov ci ad (I q) (P q)) f (.int y)) ⟨_, e1, q2, q3, t_set q4 hap g2 (.int y)⟩ (fun j _ => am_ov_setI ht j)⟩) e3, x2, x3.put e2 e3 (x1.1 q (by rw [hs]; exact Nat.one_ne_zero)), x4, am_okt (am_okt x5), x6⟩
theorem r_putP {q ci f idx z : Nat} (d : decode mi.2.1 pc = .ok (.putfield idx, 3)) (hF : am_F mi.1.cls idx ci f true) (hs : sh q = (1, ci)) (ht : am_isR (am_ty ci f) = true) (hin : mi.1.name = "<init>") (hn : ∀ a, narrow (am_ty ci f) (.ref a) = .ref a) (hfit : ∀ a, fits (am_ty ci f) (.ref a) = true) (k : am_R mi post fr lo c0 s0 (pc + 3) lv st sh I (va_up P q (va_up (P q) f (some z)))) : am_R mi post fr lo c0 s0 pc lv (.ref z :: .ref q :: st) sh I P := by
  intro l p e R s m args below meth c D t A sh0 ad0 ad mc ms H locs cells slots ls C hc0 hs0 X
  obtain ⟨hx0, hb, hml, hr, hown, hts, hlk, hnm, hroom, hN, hA⟩ := id C
  obtain ⟨x1, x2, x3, x4, x5, x6⟩ := X
  obtain ⟨C1, T1, N1, g1, g2, g3, g4, g5, g6, g7, g8⟩ := hF
  have hap := va_apart (own := mi.1.cls) hts g3 (am_ty ci) g6 g7 hN.1 g1
  obtain ⟨r, h1, cell, q1, q2, q3, q4⟩ := x1.at hs
  have hr : r = (C1, T1, N1) := Option.some.inj (h1.symm.trans g1)
  subst hr
  obtain ⟨hS, hfc, kC, hkC, hkind⟩ := hN.1.1 ci _ g1
  obtain ⟨cf, kf, fi, fd, hi, hsl⟩ := hS f g2
  have hlay := hts _ (g3 _ (u_in_lay g2))
  unfold u_lay at hlay
  rw [if_pos g5] at hlay
  have hst := (u_facts hfc hkC (u_lays hts g3 g2) hi).1
  have hcf : m.cls = cf := by
    obtain ⟨_, _, c', _, _, _, -, -, hf', -, -, -, hown2, -⟩ := Cond.laysFinal_spec hlay
    have e1 : c' = cf := by have := hi.symm.trans hf'; simp at this; exact this.1.symm
    rw [g8 rfl] at hown2
    rw [← e1]; exact Option.some.inj (hown.symm.trans hown2)
  have h6 := u_fits hfc hkC hkind (Or.inr hlay) hi (g6 f g2) (hn (ad z)) (hfit (ad z))
  refine W.putFinK hx0 hb hown (hts _ g4) hi hst hcf (hnm.trans hin) (by rw [q2]; exact h6) q1 q3 (by rw [hsl]; exact k2_hasslot (q4 f g2)) rfl rfl d fun H1 e1 e2 e3 => ?_
  rw [hsl] at e1 ⊢
  have hz : (sh z).1 ≠ 0 := am_okh x5
  refine k l p e R s m args below meth c D t A sh0 ad0 ad mc ms H1 _ cells slots ls C hc0 hs0 ⟨x1.setP (by rw [hs]; exact Nat.one_ne_zero) (fun j y hy => ?_) (by rw [hs]; exact ⟨_, g1, t_OB.to (V := updV (am_ov ci ad (I q) (P q)) f (am_rf ad (some z))) ⟨_, e1, q2, q3, t_set q4 hap g2 (.ref (ad z))⟩ (fun j _ => am_ov_setP ht j)⟩) e3, x2, x3.put e2 e3 (x1.1 q (by rw [hs]; exact Nat.one_ne_zero)), x4, am_okt (am_okt x5), x6⟩
  by_cases hj : j = f
  · simp only [va_up, hj, if_true] at hy
    cases hy
    exact hz
  · simp only [va_up, hj, if_false] at hy
    exact x1.2.2.1 q j y (by rw [hs]; exact Nat.one_ne_zero) hy
end AMH
end
section
/-! rules that make cells, and arrays of references -/
section AMB
variable {mi : MI} {post : APo} {fr lo c0 s0 pc : Nat} {lv : List (Option Value)} {st : List Value} {sh : ASh} {I : AIn} {P : APt}
theorem cv_mapup {ad : Nat → Nat} {k a : Nat} {st : List Value} (hk : (sh k).1 = 0) (h : ∀ v ∈ st, am_ok sh v) : st.map (cv (va_up ad k a)) = st.map (cv ad) := List.map_congr_left (fun v hv => cv_up hk (h v hv))
theorem am_L.up {ad : Nat → Nat} {ls : Array Slot} {n k a : Nat} (h : am_L ad ls n lv) (hok : ∀ (i : Nat) (v : Value), lv[i]? = some (some v) → am_ok sh v) (hk : (sh k).1 = 0) : am_L (va_up ad k a) ls n lv := ⟨h.1, h.2.1, h.2.2.1, fun i v hv => by rw [cv_up hk (hok i v hv)]; exact h.2.2.2 i v hv⟩
theorem am_X.born {D : va_G} {t : Nat → ClassId} {A : Nat → Prop} {sh0 : ASh} {ad0 ad : Nat → Nat} {H0 H H1 : Heap} {locs : List Loc} {ls : Array Slot} {n k : Nat} {q : Nat × Nat} {st0 : List Value} (X : am_X D t A sh0 ad0 ad H0 H locs ls n lv st0 sh I P) (hst : ∀ v ∈ st, am_ok sh v) (hk : (sh k).1 = 0) (hq : q.1 ≠ 0) (hA : ∀ q, H0.size ≤ q → A q) (hat : am_at D t (va_up ad k H.size) q (fun _ => 0) (fun _ => none) H.size H1) (z1 : H1.size = H.size + 1) (o1 : ∀ a, a < H.size → H1[a]? = H[a]?) :
    am_X D t A sh0 ad0 (va_up ad k H.size) H0 H1 locs ls n lv (.ref k :: st) (va_up sh k q) (va_up I k (fun _ => 0)) (va_up P k (fun _ => none)) := by
  obtain ⟨x1, x2, x3, x4, x5, x6⟩ := X
  refine ⟨x1.born hk (hA _ x3.1) hat o1, x2.up hk, ⟨Nat.le_trans x3.1 (by omega), fun a h1 h2 => (o1 a (Nat.lt_of_lt_of_le h1 x3.1)).trans (x3.2.1 a h1 h2), x3.2.2⟩, x4.up x6 hk, am_okc ?_ (fun v hv => am_ok_up hk (hst v hv)), fun i v hv => am_ok_up hk (x6 i v hv)⟩
  simp only [am_ok, va_up, if_true]
  exact hq
theorem r_newarrI {x : Int32} (k n : Nat) (d : decode mi.2.1 pc = .ok (.newarray .int, 2)) (hw : Cond.arrayClass .int ∈ am_tb) (hk : (sh k).1 = 0) (hx : x = nI n) (hn : n ≤ 100000) (hc1 : 1 ≤ c0) (hs1 : n ≤ s0) (kk : am_R mi post fr lo (c0 - 1) (s0 - n) (pc + 2) lv (.ref k :: st) (va_up sh k (2, n)) (va_up I k (fun _ => 0)) (va_up P k (fun _ => none))) : am_R mi post fr lo c0 s0 pc lv (.int x :: st) sh I P := by
  intro l p e R s m args below meth c D t A sh0 ad0 ad mc ms H locs cells slots ls C hc0 hs0 X
  obtain ⟨hx0, hb, hml, hr, hown, hts, hlk, hnm, hroom, hN, hA⟩ := id C
  subst hx
  have hst := am_okt X.2.2.2.2.1
  refine va_newaK hx0 hb (atype := .int) (hts _ hw) rfl d rfl (nI_pos (by omega)) (nI_clamp (by omega)) (Nat.le_trans (Nat.mul_le_mul_right _ hn) (by decide)) (by omega) (by omega) rfl fun H1 cA e1 z1 o1 hAr hNm => ?_
  have hcA : cA = t 0 := Option.some.inj (hNm.symm.trans (hN.1.2 0 _ rfl).2)
  subst hcA
  have X2 := X.born (st := st) (H1 := H1) (k := k) (q := (2, n)) hst hk (Nat.succ_ne_zero _) hA e1 z1 o1
  have h9 := kk l p e R s m args below meth c D t A sh0 ad0 _ mc ms H1 locs (cells + 1) (slots + n) ls C (by omega) (by omega) X2
  rw [List.map_cons, cv_mapup hk hst, show cv (va_up ad k H.size) (.ref k) = .ref H.size by simp [cv, va_up]] at h9
  exact h9
theorem r_newarrZ {x : Int32} (k n : Nat) (d : decode mi.2.1 pc = .ok (.newarray .boolean, 2)) (hw : Cond.arrayClass .boolean ∈ am_tb) (hk : (sh k).1 = 0) (hx : x = nI n) (hn : n ≤ 100000) (hc1 : 1 ≤ c0) (hs1 : n ≤ s0) (kk : am_R mi post fr lo (c0 - 1) (s0 - n) (pc + 2) lv (.ref k :: st) (va_up sh k (3, n)) (va_up I k (fun _ => 0)) (va_up P k (fun _ => none))) : am_R mi post fr lo c0 s0 pc lv (.int x :: st) sh I P := by
  intro l p e R s m args below meth c D t A sh0 ad0 ad mc ms H locs cells slots ls C hc0 hs0 X
  obtain ⟨hx0, hb, hml, hr, hown, hts, hlk, hnm, hroom, hN, hA⟩ := id C
  subst hx
  have hst := am_okt X.2.2.2.2.1
  refine va_newaK hx0 hb (atype := .boolean) (hts _ hw) rfl d rfl (nI_pos (by omega)) (nI_clamp (by omega)) (Nat.le_trans (Nat.mul_le_mul_right _ hn) (by decide)) (by omega) (by omega) rfl fun H1 cA e1 z1 o1 hAr hNm => ?_
  have hcA : cA = t 1 := Option.some.inj (hNm.symm.trans (hN.1.2 1 _ rfl).2)
  subst hcA
  have X2 := X.born (st := st) (H1 := H1) (k := k) (q := (3, n)) hst hk (Nat.succ_ne_zero _) hA e1 z1 o1
  have h9 := kk l p e R s m args below meth c D t A sh0 ad0 _ mc ms H1 locs (cells + 1) (slots + n) ls C (by omega) (by omega) X2
  rw [List.map_cons, cv_mapup hk hst, show cv (va_up ad k H.size) (.ref k) = .ref H.size by simp [cv, va_up]] at h9
  exact h9
theorem r_anewP {x : Int32} {idx : Nat} (k n : Nat) (d : decode mi.2.1 pc = .ok (.anewarray idx, 3)) (hw : Cond.classLink mi.1.cls idx RX3 ∈ am_tb) (hk : (sh k).1 = 0) (hx : x = nI n) (hn : n ≤ 100000) (hc1 : 1 ≤ c0) (hs1 : n ≤ s0) (kk : am_R mi post fr lo (c0 - 1) (s0 - n) (pc + 3) lv (.ref k :: st) (va_up sh k (4, n)) (va_up I k (fun _ => 0)) (va_up P k (fun _ => none))) : am_R mi post fr lo c0 s0 pc lv (.int x :: st) sh I P := by
  intro l p e R s m args below meth c D t A sh0 ad0 ad mc ms H locs cells slots ls C hc0 hs0 X
  obtain ⟨hx0, hb, hml, hr, hown, hts, hlk, hnm, hroom, hN, hA⟩ := id C
  subst hx
  have hst := am_okt X.2.2.2.2.1
  have hcl : (nI n).toNatClampNeg = n := nI_clamp (by omega)
  refine W.anew hx0 hb hown (hts _ hw) (va_AO.use hN.2.1.1) rfl d rfl (nI_pos (by omega)) (by rw [hcl]; omega) (by omega) (by rw [hcl]; omega) fun cA kA comp f1 f2 f3 f4 => ?_
  obtain ⟨kA2, comp2, g1, g2, g3, g4⟩ := (hN.1.2 2 _ rfl).2
  have hcA : cA = t 2 := Option.some.inj (f1.symm.trans g4)
  subst hcA
  rw [hcl]
  generalize hH1 : H.push ({ cls := t 2, slots := Array.replicate n .null, vm := .none } : Cell) = H1
  have z1 : H1.size = H.size + 1 := by rw [← hH1, Array.size_push]
  have e1 : H1[H.size]? = some (arrV (t 2) n (fun _ => .null)) := by rw [← hH1, Array.getElem?_push_size, ← arrV_new]
  have o1 : ∀ q : Nat, q < H.size → H1[q]? = H[q]? := fun q hq => by rw [← hH1, Array.getElem?_push, if_neg (Nat.ne_of_lt hq)]
  have X2 := X.born (st := st) (H1 := H1) (k := k) (q := (4, n)) hst hk (Nat.succ_ne_zero _) hA e1 z1 o1
  have h9 := kk l p e R s m args below meth c D t A sh0 ad0 _ mc ms H1 locs (cells + 1) (slots + n) ls C (by omega) (by omega) X2
  rw [List.map_cons, cv_mapup hk hst, show cv (va_up ad k H.size) (.ref k) = .ref H.size by simp [cv, va_up]] at h9
  exact h9
theorem r_aaloadP {q n z : Nat} {x : Int32} (i : Nat) (d : decode mi.2.1 pc = .ok (.aaload, 1)) (hs : sh q = (4, n)) (hx : x = nI i) (hi : i < n) (hn : n < 2147483648) (hp : P q i = some z) (k : am_R mi post fr lo c0 s0 (pc + 1) lv (.ref z :: st) sh I P) : am_R mi post fr lo c0 s0 pc lv (.int x :: .ref q :: st) sh I P := by
  intro l p e R s m args below meth c D t A sh0 ad0 ad mc ms H locs cells slots ls C hc0 hs0 X
  obtain ⟨hx0, hb, hml, hr, hown, hts, hlk, hnm, hroom, hN, hA⟩ := id C
  obtain ⟨x1, x2, x3, x4, x5, x6⟩ := X
  subst hx
  have hc : H[ad q]? = some (arrV (t 2) n (fun j => am_rf ad (P q j))) := x1.at hs
  exact W.aald (v := .ref (ad z)) (ty := .object RX3) hx0 hb hc ((hN.1.2 2 _ rfl).1 n _) rfl (fun h => by cases h) (by show ¬ (_ ∨ (arrV _ _ _).slots.size ≤ _); rw [arrV_size]; exact vp_in_nI hi hn) (by rw [nI_clamp (by omega), arrV_read _ _ hi, hp]; rfl) rfl rfl d
    (k l p e R s m args below meth c D t A sh0 ad0 ad mc ms H locs cells slots ls C hc0 hs0 ⟨x1, x2, x3, x4, am_okc (x1.2.2.1 q i z (by rw [hs]; exact Nat.succ_ne_zero _) hp) (am_okt (am_okt x5)), x6⟩)
theorem r_aaloadPN {q n : Nat} {x : Int32} (i : Nat) (d : decode mi.2.1 pc = .ok (.aaload, 1)) (hs : sh q = (4, n)) (hx : x = nI i) (hi : i < n) (hn : n < 2147483648) (hp : P q i = none) (k : am_R mi post fr lo c0 s0 (pc + 1) lv (.null :: st) sh I P) : am_R mi post fr lo c0 s0 pc lv (.int x :: .ref q :: st) sh I P := by
  intro l p e R s m args below meth c D t A sh0 ad0 ad mc ms H locs cells slots ls C hc0 hs0 X
  obtain ⟨hx0, hb, hml, hr, hown, hts, hlk, hnm, hroom, hN, hA⟩ := id C
  obtain ⟨x1, x2, x3, x4, x5, x6⟩ := X
  subst hx
  have hc : H[ad q]? = some (arrV (t 2) n (fun j => am_rf ad (P q j))) := x1.at hs
  exact W.aald (v := .null) (ty := .object RX3) hx0 hb hc ((hN.1.2 2 _ rfl).1 n _) rfl (fun h => by cases h) (by show ¬ (_ ∨ (arrV _ _ _).slots.size ≤ _); rw [arrV_size]; exact vp_in_nI hi hn) (by rw [nI_clamp (by omega), arrV_read _ _ hi, hp]; rfl) rfl rfl d
    (k l p e R s m args below meth c D t A sh0 ad0 ad mc ms H locs cells slots ls C hc0 hs0 ⟨x1, x2, x3, x4, am_okc trivial (am_okt (am_okt x5)), x6⟩)
theorem r_aastoreP {q n z : Nat} {x : Int32} (i : Nat) (d : decode mi.2.1 pc = .ok (.aastore, 1)) (hs : sh q = (4, n)) (hz : sh z = (1, 2)) (hx : x = nI i) (hi : i < n) (hn : n < 2147483648) (k : am_R mi post fr lo c0 s0 (pc + 1) lv st sh I (va_up P q (va_up (P q) i (some z)))) : am_R mi post fr lo c0 s0 pc lv (.ref z :: .int x :: .ref q :: st) sh I P := by
  intro l p e R s m args below meth c D t A sh0 ad0 ad mc ms H locs cells slots ls C hc0 hs0 X
  obtain ⟨hx0, hb, hml, hr, hown, hts, hlk, hnm, hroom, hN, hA⟩ := id C
  obtain ⟨x1, x2, x3, x4, x5, x6⟩ := X
  subst hx
  have hc : H[ad q]? = some (arrV (t 2) n (fun j => am_rf ad (P q j))) := x1.at hs
  obtain ⟨r', hr', cellV, g1, g2, g3, -⟩ := x1.at hz
  have hcls := (hN.1.1 2 _ rfl).2
  obtain ⟨kA, comp, k1, k2, k3, -⟩ := (hN.1.2 2 _ rfl).2
  have hcomp : comp = D.1 2 := Option.some.inj (k3.symm.trans hcls.1)
  subst hcomp
  obtain ⟨kC, hkC, -⟩ := hcls.2
  have hcl : (nI i).toNatClampNeg = i := nI_clamp (by omega)
  have hzb : (sh z).1 ≠ 0 := by rw [hz]; exact Nat.one_ne_zero
  refine W.aast hx0 hb hc (fun q h => by cases h) (fun h => by cases h) k1 k2 rfl hkC ⟨nI_pos (by omega), by show _ < (arrV _ _ _).slots.size; rw [arrV_size, hcl]; exact hi⟩ g1 (fun q h => by rw [g3] at h; cases h) (by rw [g2]; exact hkC) (by rw [g2]; exact va_assign hcls) rfl rfl d fun H1 e1 z1 oq => ?_
  have e2 : H1[ad q]? = some (arrV (t 2) n (fun j => am_rf ad (va_up (P q) i (some z) j))) := by
    rw [e1, hcl, arrV_store]
    congr 2
    funext j
    by_cases hj : j = i <;> simp [updV, va_up, hj, am_rf]
  refine k l p e R s m args below meth c D t A sh0 ad0 ad mc ms H1 _ cells slots ls C hc0 hs0 ⟨x1.setP (by rw [hs]; exact Nat.succ_ne_zero _) (fun j y hy => ?_) (by rw [hs]; exact e2) oq, x2, x3.put z1 oq (x1.1 q (by rw [hs]; exact Nat.succ_ne_zero _)), x4, am_okt (am_okt (am_okt x5)), x6⟩
  by_cases hj : j = i
  · simp only [va_up, hj, if_true] at hy
    cases hy
    exact hzb
  · simp only [va_up, hj, if_false] at hy
    exact x1.2.2.1 q j y (by rw [hs]; exact Nat.succ_ne_zero _) hy
theorem r_anewS {x : Int32} {idx : Nat} (k n : Nat) (d : decode mi.2.1 pc = .ok (.anewarray idx, 3)) (hw : Cond.classLink mi.1.cls idx RX7 ∈ am_tb) (hk : (sh k).1 = 0) (hx : x = nI n) (hn : n ≤ 100000) (hc1 : 1 ≤ c0) (hs1 : n ≤ s0) (kk : am_R mi post fr lo (c0 - 1) (s0 - n) (pc + 3) lv (.ref k :: st) (va_up sh k (5, n)) (va_up I k (fun _ => 0)) (va_up P k (fun _ => none))) : am_R mi post fr lo c0 s0 pc lv (.int x :: st) sh I P := by
  intro l p e R s m args below meth c D t A sh0 ad0 ad mc ms H locs cells slots ls C hc0 hs0 X
  obtain ⟨hx0, hb, hml, hr, hown, hts, hlk, hnm, hroom, hN, hA⟩ := id C
  subst hx
  have hst := am_okt X.2.2.2.2.1
  have hcl : (nI n).toNatClampNeg = n := nI_clamp (by omega)
  refine W.anew hx0 hb hown (hts _ hw) (va_AO.use hN.2.1.2) rfl d rfl (nI_pos (by omega)) (by rw [hcl]; omega) (by omega) (by rw [hcl]; omega) fun cA kA comp f1 f2 f3 f4 => ?_
  obtain ⟨kA2, comp2, g1, g2, g3, g4⟩ := (hN.1.2 3 _ rfl).2
  have hcA : cA = t 3 := Option.some.inj (f1.symm.trans g4)
  subst hcA
  rw [hcl]
  generalize hH1 : H.push ({ cls := t 3, slots := Array.replicate n .null, vm := .none } : Cell) = H1
  have z1 : H1.size = H.size + 1 := by rw [← hH1, Array.size_push]
  have e1 : H1[H.size]? = some (arrV (t 3) n (fun _ => .null)) := by rw [← hH1, Array.getElem?_push_size, ← arrV_new]
  have o1 : ∀ q : Nat, q < H.size → H1[q]? = H[q]? := fun q hq => by rw [← hH1, Array.getElem?_push, if_neg (Nat.ne_of_lt hq)]
  have X2 := X.born (st := st) (H1 := H1) (k := k) (q := (5, n)) hst hk (Nat.succ_ne_zero _) hA e1 z1 o1
  have h9 := kk l p e R s m args below meth c D t A sh0 ad0 _ mc ms H1 locs (cells + 1) (slots + n) ls C (by omega) (by omega) X2
  rw [List.map_cons, cv_mapup hk hst, show cv (va_up ad k H.size) (.ref k) = .ref H.size by simp [cv, va_up]] at h9
  exact h9
theorem r_aaloadS {q n z : Nat} {x : Int32} (i : Nat) (d : decode mi.2.1 pc = .ok (.aaload, 1)) (hs : sh q = (5, n)) (hx : x = nI i) (hi : i < n) (hn : n < 2147483648) (hp : P q i = some z) (k : am_R mi post fr lo c0 s0 (pc + 1) lv (.ref z :: st) sh I P) : am_R mi post fr lo c0 s0 pc lv (.int x :: .ref q :: st) sh I P := by
  intro l p e R s m args below meth c D t A sh0 ad0 ad mc ms H locs cells slots ls C hc0 hs0 X
  obtain ⟨hx0, hb, hml, hr, hown, hts, hlk, hnm, hroom, hN, hA⟩ := id C
  obtain ⟨x1, x2, x3, x4, x5, x6⟩ := X
  subst hx
  have hc : H[ad q]? = some (arrV (t 3) n (fun j => am_rf ad (P q j))) := x1.at hs
  exact W.aald (v := .ref (ad z)) (ty := .object RX7) hx0 hb hc ((hN.1.2 3 _ rfl).1 n _) rfl (fun h => by cases h) (by show ¬ (_ ∨ (arrV _ _ _).slots.size ≤ _); rw [arrV_size]; exact vp_in_nI hi hn) (by rw [nI_clamp (by omega), arrV_read _ _ hi, hp]; rfl) rfl rfl d
    (k l p e R s m args below meth c D t A sh0 ad0 ad mc ms H locs cells slots ls C hc0 hs0 ⟨x1, x2, x3, x4, am_okc (x1.2.2.1 q i z (by rw [hs]; exact Nat.succ_ne_zero _) hp) (am_okt (am_okt x5)), x6⟩)
theorem r_aaloadSN {q n : Nat} {x : Int32} (i : Nat) (d : decode mi.2.1 pc = .ok (.aaload, 1)) (hs : sh q = (5, n)) (hx : x = nI i) (hi : i < n) (hn : n < 2147483648) (hp : P q i = none) (k : am_R mi post fr lo c0 s0 (pc + 1) lv (.null :: st) sh I P) : am_R mi post fr lo c0 s0 pc lv (.int x :: .ref q :: st) sh I P := by
  intro l p e R s m args below meth c D t A sh0 ad0 ad mc ms H locs cells slots ls C hc0 hs0 X
  obtain ⟨hx0, hb, hml, hr, hown, hts, hlk, hnm, hroom, hN, hA⟩ := id C
  obtain ⟨x1, x2, x3, x4, x5, x6⟩ := X
  subst hx
  have hc : H[ad q]? = some (arrV (t 3) n (fun j => am_rf ad (P q j))) := x1.at hs
  exact W.aald (v := .null) (ty := .object RX7) hx0 hb hc ((hN.1.2 3 _ rfl).1 n _) rfl (fun h => by cases h) (by show ¬ (_ ∨ (arrV _ _ _).slots.size ≤ _); rw [arrV_size]; exact vp_in_nI hi hn) (by rw [nI_clamp (by omega), arrV_read _ _ hi, hp]; rfl) rfl rfl d
    (k l p e R s m args below meth c D t A sh0 ad0 ad mc ms H locs cells slots ls C hc0 hs0 ⟨x1, x2, x3, x4, am_okc trivial (am_okt (am_okt x5)), x6⟩)
theorem r_aastoreS {q n z : Nat} {x : Int32} (i : Nat) (d : decode mi.2.1 pc = .ok (.aastore, 1)) (hs : sh q = (5, n)) (hz : sh z = (1, 5)) (hx : x = nI i) (hi : i < n) (hn : n < 2147483648) (k : am_R mi post fr lo c0 s0 (pc + 1) lv st sh I (va_up P q (va_up (P q) i (some z)))) : am_R mi post fr lo c0 s0 pc lv (.ref z :: .int x :: .ref q :: st) sh I P := by
  intro l p e R s m args below meth c D t A sh0 ad0 ad mc ms H locs cells slots ls C hc0 hs0 X
  obtain ⟨hx0, hb, hml, hr, hown, hts, hlk, hnm, hroom, hN, hA⟩ := id C
  obtain ⟨x1, x2, x3, x4, x5, x6⟩ := X
  subst hx
  have hc : H[ad q]? = some (arrV (t 3) n (fun j => am_rf ad (P q j))) := x1.at hs
  obtain ⟨r', hr', cellV, g1, g2, g3, -⟩ := x1.at hz
  have hcls := (hN.1.1 5 _ rfl).2
  obtain ⟨kA, comp, k1, k2, k3, -⟩ := (hN.1.2 3 _ rfl).2
  have hcomp : comp = D.1 5 := Option.some.inj (k3.symm.trans hcls.1)
  subst hcomp
  obtain ⟨kC, hkC, -⟩ := hcls.2
  have hcl : (nI i).toNatClampNeg = i := nI_clamp (by omega)
  have hzb : (sh z).1 ≠ 0 := by rw [hz]; exact Nat.one_ne_zero
  refine W.aast hx0 hb hc (fun q h => by cases h) (fun h => by cases h) k1 k2 rfl hkC ⟨nI_pos (by omega), by show _ < (arrV _ _ _).slots.size; rw [arrV_size, hcl]; exact hi⟩ g1 (fun q h => by rw [g3] at h; cases h) (by rw [g2]; exact hkC) (by rw [g2]; exact va_assign hcls) rfl rfl d fun H1 e1 z1 oq => ?_
  have e2 : H1[ad q]? = some (arrV (t 3) n (fun j => am_rf ad (va_up (P q) i (some z) j))) := by
    rw [e1, hcl, arrV_store]
    congr 2
    funext j
    by_cases hj : j = i <;> simp [updV, va_up, hj, am_rf]
  refine k l p e R s m args below meth c D t A sh0 ad0 ad mc ms H1 _ cells slots ls C hc0 hs0 ⟨x1.setP (by rw [hs]; exact Nat.succ_ne_zero _) (fun j y hy => ?_) (by rw [hs]; exact e2) oq, x2, x3.put z1 oq (x1.1 q (by rw [hs]; exact Nat.succ_ne_zero _)), x4, am_okt (am_okt (am_okt x5)), x6⟩
  by_cases hj : j = i
  · simp only [va_up, hj, if_true] at hy
    cases hy
    exact hzb
  · simp only [va_up, hj, if_false] at hy
    exact x1.2.2.1 q j y (by rw [hs]; exact Nat.succ_ne_zero _) hy
theorem r_alen {q n : Nat} (d : decode mi.2.1 pc = .ok (.arraylength, 1)) (hs : sh q = (2, n)) (k : am_R mi post fr lo c0 s0 (pc + 1) lv (.int (nI n) :: st) sh I P) : am_R mi post fr lo c0 s0 pc lv (.ref q :: st) sh I P := by
  intro l p e R s m args below meth c D t A sh0 ad0 ad mc ms H locs cells slots ls C hc0 hs0 X
  obtain ⟨hx0, hb, hml, hr, hown, hts, hlk, hnm, hroom, hN, hA⟩ := id C
  obtain ⟨x1, x2, x3, x4, x5, x6⟩ := X
  have hc : H[ad q]? = some (arrV (t 0) n (fun j => .int (I q j))) := x1.at hs
  exact W.alen hx0 hb hc ((hN.1.2 0 _ rfl).1 n _) (by rw [arrV_size]; rfl) rfl rfl d
    (k l p e R s m args below meth c D t A sh0 ad0 ad mc ms H locs cells slots ls C hc0 hs0 ⟨x1, x2, x3, x4, am_okc trivial (am_okt x5), x6⟩)
/-- a kind of object that is made -/
def am_K (own : String) (idx ci N : Nat) : Prop := ∃ (C : String) (T : u_T), am_cl[ci]? = some (C, T, N) ∧ (∀ w ∈ u_ws C T N, w ∈ am_tb) ∧ Cond.classLink own idx C ∈ am_tb ∧ Cond.instantiable C N ∈ am_tb ∧ Cond.initialized C ∈ am_tb ∧ (∀ k, k < N → parseFieldDescriptor (T k).2.2.1 = some (am_ty ci k)) ∧ ∀ k, k < N → defaultValue (am_ty ci k) = if am_isR (am_ty ci k) = true then .null else .int 0
theorem r_new {idx ci N : Nat} (k : Nat) (d : decode mi.2.1 pc = .ok (.new idx, 3)) (hK : am_K mi.1.cls idx ci N) (hk : (sh k).1 = 0) (hc1 : 1 ≤ c0) (hs1 : N ≤ s0) (kk : am_R mi post fr lo (c0 - 1) (s0 - N) (pc + 3) lv (.ref k :: st) (va_up sh k (1, ci)) (va_up I k (fun _ => 0)) (va_up P k (fun _ => none))) : am_R mi post fr lo c0 s0 pc lv st sh I P := by
  intro l p e R s m args below meth c D t A sh0 ad0 ad mc ms H locs cells slots ls C hc0 hs0 X
  obtain ⟨hx0, hb, hml, hr, hown, hts, hlk, hnm, hroom, hN, hA⟩ := id C
  obtain ⟨C1, T1, g1, g2, g3, g4, g5, g6, g7⟩ := hK
  have hst := X.2.2.2.2.1
  have hKn := hN.1.1 ci _ g1
  refine W.newcK hx0 hb hown (hts _ g3) (hts _ g4) (hts _ g5) rfl d (by omega) (by omega) hKn.2.1 rfl fun H1 kC hkC e1 z1 o1 => ?_
  have X2 := X.born (st := st) (H1 := H1) (k := k) (q := (1, ci)) hst hk Nat.one_ne_zero hA ⟨_, g1, (u_born (am_ty ci) hts g2 hKn hkC e1 g6).to (fun j hj => by rw [g7 j hj]; rfl)⟩ z1 o1
  have h9 := kk l p e R s m args below meth c D t A sh0 ad0 _ mc ms H1 locs (cells + 1) (slots + N) ls C (by omega) (by omega) X2
  rw [List.map_cons, cv_mapup hk hst, show cv (va_up ad k H.size) (.ref k) = .ref H.size by simp [cv, va_up]] at h9
  exact h9
theorem am_sum (ad : Nat → Nat) (h : ∀ v ∈ st, am_ok sh v) : ((st.map (cv ad)).map fun v => v.category).sum = st.length := by
  induction st with
  | nil => rfl
  | cons v st ih =>
    rw [List.map_cons, List.map_cons, List.sum_cons, ih (am_okt h), am_catc ad (am_okh h), List.length_cons]
    omega
theorem r_obj {idx q : Nat} (d : decode mi.2.1 pc = .ok (.invokespecial idx, 3)) (hw : Cond.methodLink mi.1.cls idx objectInit ∈ am_tb ∧ Cond.instanceMethod objectInit ∈ am_tb ∧ Cond.code objectInit ⟨#[0xb1]⟩ 1 none ∈ am_tb) (hroom : 1 ≤ fr ∧ st.length + 12 ≤ lo) (k : am_R mi post fr lo c0 s0 (pc + 3) lv st sh I P) : am_R mi post fr lo c0 s0 pc lv (.ref q :: st) sh I P := by
  intro l p e R s m args below meth c D t A sh0 ad0 ad mc ms H locs cells slots ls C hc0 hs0 X
  obtain ⟨hx0, hb, hml, hr, hown, hts, hlk, hnm, hrm, hN, hA⟩ := id C
  obtain ⟨x1, x2, x3, x4, x5, x6⟩ := X
  have h1 := am_sum ad (am_okt x5)
  exact W.objInit hx0 hb hown (hts _ hw.1) (hts _ hw.2.1) (hts _ hw.2.2) rfl (by rw [hml]; exact x4.2.1) (rest := st.map (cv ad)) rfl d (by omega) (by show 2 * 0 + _ + 12 ≤ _; omega)
    (k l p e R s m args below meth c D t A sh0 ad0 ad mc ms H locs cells slots ls C hc0 hs0 ⟨x1, x2, x3, x4, am_okt x5, x6⟩)
theorem r_ireturn {v : Int32} (d : decode mi.2.1 pc = .ok (.ireturn, 1)) (ty : FieldType) (hty : mi.2.2.2 = some ty) (hn : narrow ty (.int v) = .int v) (hp : post (some v) sh I P) : am_R mi post fr lo c0 s0 pc lv [.int v] sh I P := by
  intro l p e R s m args below meth c D t A sh0 ad0 ad mc ms H locs cells slots ls C hc0 hs0 X
  obtain ⟨hx0, hb, hml, hr, hown, hts, hlk, hnm, hrm, hN, hA⟩ := id C
  obtain ⟨x1, x2, x3, x4, x5, x6⟩ := X
  refine W.widen (k := mc) (n := ms) (by omega) (by omega) ?_
  exact W.zret hx0 hb (hr.trans hty) hn (fun u hu hW => ⟨⟨some v, ad, sh, I, P, rfl, hp, x2, by rw [hu]; exact x1⟩, x3.F hu⟩) x3.2.2 d
theorem r_return (d : decode mi.2.1 pc = .ok (.return_, 1)) (hty : mi.2.2.2 = none) (hp : post none sh I P) : am_R mi post fr lo c0 s0 pc lv [] sh I P := by
  intro l p e R s m args below meth c D t A sh0 ad0 ad mc ms H locs cells slots ls C hc0 hs0 X
  obtain ⟨hx0, hb, hml, hr, hown, hts, hlk, hnm, hrm, hN, hA⟩ := id C
  obtain ⟨x1, x2, x3, x4, x5, x6⟩ := X
  refine W.widen (k := mc) (n := ms) (by omega) (by omega) ?_
  exact W.vret hx0 hb (hr.trans hty) (fun u hu hW => ⟨⟨none, ad, sh, I, P, rfl, hp, x2, by rw [hu]; exact x1⟩, x3.F hu⟩) x3.2.2 d
/-! a contract out of a run, and calls -/
def am_ent (As : List Value) (n : Nat) : List (Option Value) := As.map some ++ List.replicate (n - As.length) none
def am_Pc (D : va_G) (t : Nat → ClassId) (A : Nat → Prop) (ad : Nat → Nat) (sh : ASh) (I : AIn) (P : APt) (As : List Value) : Array Value → State → Prop := fun v U => v = (As.map (cv ad)).toArray ∧ am_W D t A ad sh I P U.heap ∧ am_N D t A U U.heap ∧ (∀ q, U.heap.size ≤ q → A q) ∧ ∀ v ∈ As, am_ok sh v
theorem am_sl {ad : Nat → Nat} {As : List Value} (h : ∀ v ∈ As, am_ok sh v) : lg_sl (As.map (cv ad)) = (As.map (cv ad)).map Slot.val := by
  induction As with
  | nil => rfl
  | cons v As ih =>
    have h1 := am_catc ad (am_okh h)
    have h2 := ih (am_okt h)
    unfold lg_sl at h2 ⊢
    rw [List.map_cons, List.flatMap_cons, h2, List.map_cons, if_neg (by rw [h1]; decide)]
    rfl
theorem am_entL {ad : Nat → Nat} {As : List Value} {n : Nat} (h : ∀ v ∈ As, am_ok sh v) (hn : As.length ≤ n) : am_L ad ((lg_sl (As.map (cv ad)) ++ List.replicate (n - (lg_sl (As.map (cv ad))).length) Slot.unset).toArray) n (am_ent As n) := by
  have hl := lv_entry (As.map (cv ad)) (n := n) (by rw [am_sl h]; simpa using hn)
  refine ⟨by simp [am_ent]; omega, hl.1, hl.2.1, fun i v hv => ?_⟩
  have hi : i < As.length := by
    rcases Nat.lt_or_ge i As.length with q | q
    · exact q
    · unfold am_ent at hv
      rw [List.getElem?_append_right (by simpa using q)] at hv
      have := List.mem_of_getElem? hv
      rw [List.mem_replicate] at this
      cases this.2
  unfold am_ent at hv
  rw [List.getElem?_append_left (by simpa using hi), List.getElem?_map] at hv
  cases hA : As[i]? with
  | none => rw [hA] at hv; cases hv
  | some w =>
    rw [hA] at hv
    cases hv
    rw [am_sl h, List.getElem?_toArray, List.getElem?_append_left (by simpa using hi), List.getElem?_map, List.getElem?_map, hA]
    rfl
theorem am_ent_ok {As : List Value} {n : Nat} (h : ∀ v ∈ As, am_ok sh v) : ∀ (i : Nat) (v : Value), (am_ent As n)[i]? = some (some v) → am_ok sh v := by
  intro i v hv
  have h1 := List.mem_of_getElem? hv
  unfold am_ent at h1
  rcases List.mem_append.mp h1 with h1 | h1
  · obtain ⟨w, hw, e⟩ := List.mem_map.mp h1
    cases e
    exact h v hw
  · rw [List.mem_replicate] at h1
    cases h1.2
theorem am_met {As : List Value} {mc ms : Nat} (hrun : am_R mi post fr lo mc ms 0 (am_ent As mi.2.2.1) [] sh I P) (hy : plainName mi.1.cls = true) (hAs : As.length ≤ mi.2.2.1) (l : Launch) (D : va_G) (t : Nat → ClassId) (A : Nat → Prop) (ad : Nat → Nat) :
    Met l mi.1 (Cond.code mi.1 mi.2.1 mi.2.2.1 mi.2.2.2 :: am_tb) ({ frames := fr, cells := mc, slots := ms, locals := lo }) (am_Pc D t A ad sh I P As) (am_Q D t A ad sh post) mc ms A := by
  refine Met.ofW (cc := mi.2.1) (maxL := mi.2.2.1) (ret := mi.2.2.2) hy rfl ?_
  intro p e s m args below meth c s₁ B hml hv
  obtain ⟨rfl, hW, hN, hA, hok⟩ := hv
  have hts := atoms_spec (ws := Cond.code mi.1 mi.2.1 mi.2.2.1 mi.2.2.2 :: am_tb) B.pre
  rw [lg_entry_eq]
  exact hrun l p e _ s m _ below meth c D t A sh ad ad mc ms s.heap [] 0 0 _ ⟨B.exec, B.bytes, hml, B.returns, findClass_of_methodNamed B.named, fun w hw => hts w (List.mem_cons_of_mem _ hw), B.notSynchronized, (name_of_methodNamed B.named B.method).1, ⟨Nat.le_refl _, Nat.le_refl _, Nat.le_refl _, Nat.le_refl _⟩, hN, hA⟩ (by omega) (by omega)
    ⟨hW, fun k hk => ⟨hk, rfl⟩, va_S.rf, am_entL hok hAs, (fun v hv => absurd hv List.not_mem_nil), am_ent_ok hok⟩
theorem am_blind (D : va_G) (t : Nat → ClassId) (A : Nat → Prop) (ad : Nat → Nat) (As : List Value) : FrameBlind (am_Pc D t A ad sh I P As) := fun a U g mk q => by
  obtain ⟨q0, q1, q2, q3, q4⟩ := q
  exact ⟨q0, q1, q2.same rfl, q3, q4⟩
theorem am_ret {p : Program} {l : Launch} {e : Env} {R : Room} {s : State} {m : MethodId} {args : Array Value} {below : List Frame} {meth : Method} {c : Code} {H : Heap} {locs : List Loc} {cells slots mc ms : Nat} {Q : State → Prop} {ls : Array Slot} {rest st0 : List Value} {a : Array Value} {D : va_G} {t : Nat → ClassId} {A : Nat → Prop} {ad : Nat → Nat}
    (hr : va_Run p l e R s m args below meth c H locs cells slots mc ms (F0 m pc ls st0) rest (am_Q D t A ad sh post a) A) (hS : va_S A s.heap H locs)
    (kk : ∀ (r : Option Int32) (ad' : Nat → Nat) (sh' : ASh) (I' : AIn) (P' : APt) (H1 : Heap) (locs1 : List Loc), post r sh' I' P' → am_E sh ad sh' ad' → am_W D t A ad' sh' I' P' H1 → va_S A s.heap H1 locs1 → W p l e R s m args below meth c H1 locs1 (cells + mc) (slots + ms) Q (F0 m (pc + 3) ls ((r.map Value.int).toList ++ rest))) : W p l e R s m args below meth c H locs cells slots Q (F0 m pc ls st0) := by
  intro T hT X
  obtain ⟨v, st₀, u, T', L, h0, X', hL, e1, e2, ⟨⟨r, ad', sh', I', P', hv, hp, hE, hw⟩, hz, hk⟩, stp⟩ := hr T hT X
  cases hv
  rw [h0] at hz hk
  obtain ⟨t2, a1, b1⟩ := kk r ad' sh' I' P' T'.heap (locs ++ L) hp hE (by rw [e1]; exact hw)
    ⟨Nat.le_trans hS.1 (by rw [e1]; exact hz), fun q h1 h2 => by rw [e1, hk q (Nat.lt_of_lt_of_le h1 hS.1) h2]; exact hS.2.1 q h1 h2, fun q hq => by
      rcases List.mem_append.mp hq with h | h
      · exact hS.2.2 q h
      · exact hL q h⟩ T' rfl X'
  exact ⟨t2, stp t2 a1, b1⟩
theorem cv_E {sh0 : ASh} {ad0 ad : Nat → Nat} {v : Value} (hE : am_E sh0 ad0 sh ad) (h : am_ok sh0 v) : cv ad v = cv ad0 v := by
  cases v with
  | ref z => simp only [cv, (hE z h).2]
  | _ => rfl
theorem am_ok_E {sh0 : ASh} {ad0 ad : Nat → Nat} {v : Value} (hE : am_E sh0 ad0 sh ad) (h : am_ok sh0 v) : am_ok sh v := by
  cases v with
  | ref z => exact (hE z h).1
  | _ => exact h
theorem am_after {D : va_G} {t : Nat → ClassId} {A : Nat → Prop} {sh0 sh' : ASh} {ad0 ad ad' : Nat → Nat} {H0 H H1 : Heap} {locs locs1 : List Loc} {ls : Array Slot} {n : Nat} {I' : AIn} {P' : APt} {st0 : List Value} {r : Option Int32} (X : am_X D t A sh0 ad0 ad H0 H locs ls n lv st0 sh I P) (hst : ∀ v ∈ st, am_ok sh v) (hE : am_E sh ad sh' ad') (hw : am_W D t A ad' sh' I' P' H1) (hS : va_S A H0 H1 locs1) :
    am_X D t A sh0 ad0 ad' H0 H1 locs1 ls n lv ((r.map Value.int).toList ++ st) sh' I' P' ∧ ((r.map Value.int).toList ++ st).map (cv ad') = (r.map Value.int).toList ++ st.map (cv ad) := by
  obtain ⟨x1, x2, x3, x4, x5, x6⟩ := X
  refine ⟨⟨hw, fun k hk => ⟨(hE k (x2 k hk).1).1, (hE k (x2 k hk).1).2.trans (x2 k hk).2⟩, hS, ⟨x4.1, x4.2.1, x4.2.2.1, fun i v hv => by rw [cv_E hE (x6 i v hv)]; exact x4.2.2.2 i v hv⟩, fun v hv => ?_, fun i v hv => am_ok_E hE (x6 i v hv)⟩, ?_⟩
  · rcases List.mem_append.mp hv with h | h
    · cases r with
      | none => cases h
      | some x =>
        rw [List.mem_singleton.mp h]
        trivial
    · exact am_ok_E hE (hst v h)
  · rw [List.map_append]
    congr 1
    · cases r <;> rfl
    · exact List.map_congr_left (fun v hv => cv_E hE (hst v hv))
/-- what the tables say of a method that is called -/
def am_M (mi : MI) (n : Nat) : Prop := Cond.code mi.1 mi.2.1 mi.2.2.1 mi.2.2.2 ∈ am_tb ∧ Cond.initialized mi.1.cls ∈ am_tb ∧ (mi.1.cls ≠ "java/lang/invoke/MethodHandle" ∧ mi.1.cls ≠ "java/lang/invoke/VarHandle") ∧ (parseMethodDescriptor mi.1.desc).map (fun d => d.parameters.length) = some n ∧ plainName mi.1.cls = true
theorem am_cb {mi' : MI} {R : Room} {s : State} {args : Array Value} {fr' lo' mc' ms' n idx : Nat} (hM : am_M mi' n) (hl : Cond.methodLink mi.1.cls idx mi'.1 ∈ am_tb) (hts : ∀ w ∈ am_tb, w.before args s = true) (hR : fr' + 1 ≤ R.frames ∧ 8 + (mi'.2.2.1 + 11) + lo' ≤ R.locals) :
    CallB R s args mi.1.cls idx mi'.1 mi'.2.1 mi'.2.2.1 mi'.2.2.2 (Cond.code mi'.1 mi'.2.1 mi'.2.2.1 mi'.2.2.2 :: am_tb) ({ frames := fr', cells := mc', slots := ms', locals := lo' }) mc' ms' n := by
  obtain ⟨h1, h2, h3, h4, h5⟩ := hM
  have hG : GoodIn am_tb (Cond.code mi'.1 mi'.2.1 mi'.2.2.1 mi'.2.2.2 :: am_tb) := fun w hw => by
    rcases List.mem_cons.mp hw with rfl | hw
    · exact ⟨h1, am_good _ h1⟩
    · exact ⟨hw, am_good _ hw⟩
  exact callB_of n hts hG rfl rfl rfl (hts _ h2) (hts _ hl) ⟨h3.1, h3.2, h4⟩ hR
theorem am_pre {D : va_G} {t : Nat → ClassId} {A : Nat → Prop} {sh0 : ASh} {ad0 ad : Nat → Nat} {s : State} {H : Heap} {locs : List Loc} {ls : Array Slot} {n : Nat} {st0 As : List Value} (X : am_X D t A sh0 ad0 ad s.heap H locs ls n lv st0 sh I P) (hN : am_N D t A s s.heap) (hA : ∀ q, s.heap.size ≤ q → A q) (hAs : ∀ v ∈ As, am_ok sh v) : ∀ U : State, U.heap = H → s.WarmedH U.vm → am_Pc D t A ad sh I P As (As.map (cv ad)).toArray U := by
  intro U hU hW
  obtain ⟨x1, x2, x3, x4, x5, x6⟩ := X
  exact ⟨rfl, by rw [hU]; exact x1, by rw [hU]; exact hN.moved hW x3.2.1, fun q hq => hA q (Nat.le_trans x3.1 (by rw [← hU]; exact hq)), hAs⟩
theorem am_ok_rev {As : List Value} {v : Value} (h : ∀ w ∈ As.reverse ++ v :: st, am_ok sh w) : (∀ w ∈ v :: As, am_ok sh w) ∧ ∀ w ∈ st, am_ok sh w := by
  refine ⟨fun w hw => h w ?_, fun w hw => h w (List.mem_append_right _ (List.mem_cons_of_mem _ hw))⟩
  rcases List.mem_cons.mp hw with rfl | hw
  · exact List.mem_append_right _ List.mem_cons_self
  · exact List.mem_append_left _ (List.mem_reverse.mpr hw)
theorem am_callV {mi' : MI} {post' : APo} {fr' lo' mc' ms' n idx q ci : Nat} (As : List Value) (d : decode mi.2.1 pc = .ok (.invokevirtual idx, 3)) (hM : am_M mi' n) (hi : Cond.instanceMethod mi'.1 ∈ am_tb ∧ Cond.selects mi'.1.cls mi'.1 mi'.1 ∈ am_tb) (hl : Cond.methodLink mi.1.cls idx mi'.1 ∈ am_tb) (hs : sh q = (1, ci)) (hci : ∃ T N, am_cl[ci]? = some (mi'.1.cls, T, N)) (hn : As.length = n) (hmx : n + 1 ≤ mi'.2.2.1) (hroom : fr' + 1 ≤ fr ∧ 8 + (mi'.2.2.1 + 11) + lo' ≤ lo) (hmc : mc' ≤ c0) (hms : ms' ≤ s0) (hst : st.length ≤ 8)
    (hc : am_R mi' post' fr' lo' mc' ms' 0 (am_ent (.ref q :: As) mi'.2.2.1) [] sh I P) (k : ∀ r sh' I' P', post' r sh' I' P' → am_R mi post fr lo (c0 - mc') (s0 - ms') (pc + 3) lv ((r.map Value.int).toList ++ st) sh' I' P') : am_R mi post fr lo c0 s0 pc lv (As.reverse ++ .ref q :: st) sh I P := by
  intro l p e R s m args below meth c D t A sh0 ad0 ad mc ms H locs cells slots ls C hc0 hs0 X
  obtain ⟨hx0, hb, hml, hr, hown, hts, hlk, hnm, hrm, hN, hA⟩ := id C
  obtain ⟨hok, hst2⟩ := am_ok_rev X.2.2.2.2.1
  obtain ⟨T1, N1, g1⟩ := hci
  have h1 := am_sum ad hst2
  have hrecv : ∃ cellB : Cell, H[ad q]? = some cellB ∧ cellB.vm.isStatics = false ∧ s.vm.findClass mi'.1.cls = some cellB.cls := by
    obtain ⟨r, h1, cell, q1, q2, q3, -⟩ := X.1.at hs
    exact ⟨cell, q1, by rw [q3]; rfl, by rw [q2]; exact (hN.1.1 ci _ g1).2.1⟩
  have hstk : (As.reverse ++ .ref q :: st).map (cv ad) = (As.map (cv ad)).reverse ++ .ref (ad q) :: st.map (cv ad) := by rw [List.map_append, List.map_reverse]; rfl
  refine am_ret (va_runV (As := As.map (cv ad)) (rest := st.map (cv ad)) (b := ad q) ⟨hx0, hb, hml, hown, hts⟩ (am_met hc hM.2.2.2.2 (by rw [List.length_cons, hn]; exact hmx) l D t A ad) ⟨am_cb hM hl hts ⟨by omega, by omega⟩, hts _ hi.1, hts _ hi.2⟩ ⟨am_blind D t A ad _, hrecv, am_pre X hN hA hok⟩ rfl (by rw [List.length_map]; exact hn) X.2.2.2.1.2.1 hstk ?_ d ⟨by omega, by omega⟩) X.2.2.1 (fun r ad' sh' I' P' H1 locs1 hp hE hw hS => ?_)
  · show 2 * 0 + _ ≤ 8
    omega
  · obtain ⟨X2, e2⟩ := am_after (r := r) X hst2 hE hw hS
    have h9 := k r sh' I' P' hp l p e R s m args below meth c D t A sh0 ad0 ad' mc ms H1 locs1 (cells + mc') (slots + ms') ls C (by omega) (by omega) X2
    rw [e2] at h9
    exact h9
theorem am_callS {mi' : MI} {post' : APo} {fr' lo' mc' ms' n idx : Nat} (As : List Value) (d : decode mi.2.1 pc = .ok (.invokestatic idx, 3)) (hM : am_M mi' n) (hi : Cond.static mi'.1 ∈ am_tb) (hl : Cond.methodLink mi.1.cls idx mi'.1 ∈ am_tb) (hn : As.length = n) (hmx : n ≤ mi'.2.2.1) (hroom : fr' + 1 ≤ fr ∧ 8 + (mi'.2.2.1 + 11) + lo' ≤ lo) (hmc : mc' ≤ c0) (hms : ms' ≤ s0) (hst : st.length ≤ 8)
    (hc : am_R mi' post' fr' lo' mc' ms' 0 (am_ent As mi'.2.2.1) [] sh I P) (k : ∀ r sh' I' P', post' r sh' I' P' → am_R mi post fr lo (c0 - mc') (s0 - ms') (pc + 3) lv ((r.map Value.int).toList ++ st) sh' I' P') : am_R mi post fr lo c0 s0 pc lv (As.reverse ++ st) sh I P := by
  intro l p e R s m args below meth c D t A sh0 ad0 ad mc ms H locs cells slots ls C hc0 hs0 X
  obtain ⟨hx0, hb, hml, hr, hown, hts, hlk, hnm, hrm, hN, hA⟩ := id C
  have hok : ∀ w ∈ As, am_ok sh w := fun w hw => X.2.2.2.2.1 w (List.mem_append_left _ (List.mem_reverse.mpr hw))
  have hst2 : ∀ w ∈ st, am_ok sh w := fun w hw => X.2.2.2.2.1 w (List.mem_append_right _ hw)
  have h1 := am_sum ad hst2
  have hstk : (As.reverse ++ st).map (cv ad) = (As.map (cv ad)).reverse ++ st.map (cv ad) := by rw [List.map_append, List.map_reverse]
  refine am_ret (va_runS (As := As.map (cv ad)) (rest := st.map (cv ad)) ⟨hx0, hb, hml, hown, hts⟩ (am_met hc hM.2.2.2.2 (by rw [hn]; exact hmx) l D t A ad) ⟨am_cb hM hl hts ⟨by omega, by omega⟩, hts _ hi⟩ ⟨am_blind D t A ad _, am_pre X hN hA hok⟩ rfl (by rw [List.length_map]; exact hn) X.2.2.2.1.2.1 hstk ?_ d ⟨by omega, by omega⟩) X.2.2.1 (fun r ad' sh' I' P' H1 locs1 hp hE hw hS => ?_)
  · show 2 * 0 + _ ≤ 8
    omega
  · obtain ⟨X2, e2⟩ := am_after (r := r) X hst2 hE hw hS
    have h9 := k r sh' I' P' hp l p e R s m args below meth c D t A sh0 ad0 ad' mc ms H1 locs1 (cells + mc') (slots + ms') ls C (by omega) (by omega) X2
    rw [e2] at h9
    exact h9
theorem am_callI {mi' : MI} {post' : APo} {fr' lo' mc' ms' n idx q : Nat} (As : List Value) (d : decode mi.2.1 pc = .ok (.invokespecial idx, 3)) (hM : am_M mi' n) (hret : mi'.2.2.2 = none) (hi : Cond.instanceMethod mi'.1 ∈ am_tb) (hnm2 : mi'.1.name = "<init>") (hl : Cond.methodLink mi.1.cls idx mi'.1 ∈ am_tb) (hn : As.length = n) (hmx : n + 1 ≤ mi'.2.2.1) (hroom : fr' + 1 ≤ fr ∧ 8 + (mi'.2.2.1 + 11) + lo' ≤ lo) (hmc : mc' ≤ c0) (hms : ms' ≤ s0) (hst : st.length ≤ 8)
    (hc : am_R mi' post' fr' lo' mc' ms' 0 (am_ent (.ref q :: As) mi'.2.2.1) [] sh I P) (k : ∀ r sh' I' P', post' r sh' I' P' → am_R mi post fr lo (c0 - mc') (s0 - ms') (pc + 3) lv ((r.map Value.int).toList ++ st) sh' I' P') : am_R mi post fr lo c0 s0 pc lv (As.reverse ++ .ref q :: st) sh I P := by
  intro l p e R s m args below meth c D t A sh0 ad0 ad mc ms H locs cells slots ls C hc0 hs0 X
  obtain ⟨hx0, hb, hml, hr, hown, hts, hlk, hnm, hrm, hN, hA⟩ := id C
  obtain ⟨hok, hst2⟩ := am_ok_rev X.2.2.2.2.1
  have h1 := am_sum ad hst2
  have hstk : (As.reverse ++ .ref q :: st).map (cv ad) = (As.map (cv ad)).reverse ++ .ref (ad q) :: st.map (cv ad) := by rw [List.map_append, List.map_reverse]; rfl
  have hcb := am_cb (mi := mi) (mc' := mc') (ms' := ms') (R := R) hM hl hts (fr' := fr') (lo' := lo') ⟨by omega, by omega⟩
  have hmt := am_met hc hM.2.2.2.2 (by rw [List.length_cons, hn]; exact hmx) l D t A ad
  rw [hret] at hcb hmt
  refine am_ret (va_runI (As := As.map (cv ad)) (rest := st.map (cv ad)) (b := ad q) ⟨hx0, hb, hml, hown, hts⟩ hmt ⟨hcb, hnm2, hts _ hi⟩ ⟨am_blind D t A ad _, am_pre X hN hA hok⟩ rfl (by rw [List.length_map]; exact hn) X.2.2.2.1.2.1 hstk ?_ d ⟨by omega, by omega⟩) X.2.2.1 (fun r ad' sh' I' P' H1 locs1 hp hE hw hS => ?_)
  · show 2 * 0 + _ ≤ 8
    omega
  · obtain ⟨X2, e2⟩ := am_after (r := r) X hst2 hE hw hS
    have h9 := k r sh' I' P' hp l p e R s m args below meth c D t A sh0 ad0 ad' mc ms H1 locs1 (cells + mc') (slots + ms') ls C (by omega) (by omega) X2
    rw [e2] at h9
    exact h9
theorem am_callN {mi' : MI} {post' : APo} {fr' lo' mc' ms' n idx q : Nat} (As : List Value) (d : decode mi.2.1 pc = .ok (.invokespecial idx, 3)) (hM : am_M mi' n) (hret : mi'.2.2.2 = none) (hi : Cond.instanceMethod mi'.1 ∈ am_tb) (hnm2 : mi'.1.name = "<init>") (host : String) (hl : (mi.1.cls, idx, mi'.1, host) ∈ am_ne) (hn : As.length = n) (hmx : n + 1 ≤ mi'.2.2.1) (hroom : fr' + 1 ≤ fr ∧ 8 + (mi'.2.2.1 + 11) + lo' ≤ lo) (hmc : mc' ≤ c0) (hms : ms' ≤ s0) (hst : st.length ≤ 8)
    (hc : am_R mi' post' fr' lo' mc' ms' 0 (am_ent (.ref q :: As) mi'.2.2.1) [] sh I P) (k : ∀ r sh' I' P', post' r sh' I' P' → am_R mi post fr lo (c0 - mc') (s0 - ms') (pc + 3) lv ((r.map Value.int).toList ++ st) sh' I' P') : am_R mi post fr lo c0 s0 pc lv (As.reverse ++ .ref q :: st) sh I P := by
  intro l p e R s m args below meth c D t A sh0 ad0 ad mc ms H locs cells slots ls C hc0 hs0 X
  obtain ⟨hx0, hb, hml, hr, hown, hts, hlk, hnm, hrm, hN, hA⟩ := id C
  obtain ⟨hok, hst2⟩ := am_ok_rev X.2.2.2.2.1
  have h1 := am_sum ad hst2
  have hstk : (As.reverse ++ .ref q :: st).map (cv ad) = (As.map (cv ad)).reverse ++ .ref (ad q) :: st.map (cv ad) := by rw [List.map_append, List.map_reverse]; rfl
  have hmt := am_met hc hM.2.2.2.2 (by rw [List.length_cons, hn]; exact hmx) l D t A ad
  have hG : GoodIn am_tb (Cond.code mi'.1 mi'.2.1 mi'.2.2.1 mi'.2.2.2 :: am_tb) := fun w hw => by
    rcases List.mem_cons.mp hw with rfl | hw
    · exact ⟨hM.1, am_good _ hM.1⟩
    · exact ⟨hw, am_good _ hw⟩
  have hcn := va_cnB (R := R) (args := args) (own := mi.1.cls) (host := host) (index := idx) (mc := mc') (ms := ms') (rm := { frames := fr', cells := mc', slots := ms', locals := lo' }) n hts hG rfl rfl rfl (hN.2.2.1 _ hl) (hts _ hM.2.1) ⟨hM.2.2.1.1, hM.2.2.1.2, hM.2.2.2.1⟩ ⟨by show fr' + 1 ≤ _; omega, by show 8 + (mi'.2.2.1 + 11) + lo' ≤ _; omega⟩
  rw [hret] at hcn hmt
  refine am_ret (va_runIN (As := As.map (cv ad)) (rest := st.map (cv ad)) (b := ad q) ⟨hx0, hb, hml, hown, hts⟩ hmt ⟨hcn, hnm2, hts _ hi⟩ ⟨am_blind D t A ad _, am_pre X hN hA hok⟩ rfl (by rw [List.length_map]; exact hn) X.2.2.2.1.2.1 hstk ?_ d ⟨by omega, by omega⟩) X.2.2.1 (fun r ad' sh' I' P' H1 locs1 hp hE hw hS => ?_)
  · show 2 * 0 + _ ≤ 8
    omega
  · obtain ⟨X2, e2⟩ := am_after (r := r) X hst2 hE hw hS
    have h9 := k r sh' I' P' hp l p e R s m args below meth c D t A sh0 ad0 ad' mc ms H1 locs1 (cells + mc') (slots + ms') ls C (by omega) (by omega) X2
    rw [e2] at h9
    exact h9
end AMB
end
section
/-! calls by the number of what they take; fixed tables; copies -/
section AMV
variable {mi mi' : MI} {post post' : APo} {fr lo c0 s0 pc fr' lo' mc' ms' idx q ci : Nat} {lv : List (Option Value)} {st : List Value} {sh : ASh} {I : AIn} {P : APt}
theorem r_callV0 (d : decode mi.2.1 pc = .ok (.invokevirtual idx, 3)) (hM : am_M mi' 0) (hi : Cond.instanceMethod mi'.1 ∈ am_tb ∧ Cond.selects mi'.1.cls mi'.1 mi'.1 ∈ am_tb) (hl : Cond.methodLink mi.1.cls idx mi'.1 ∈ am_tb) (hs : sh q = (1, ci)) (hci : ∃ T N, am_cl[ci]? = some (mi'.1.cls, T, N)) (hmx : 1 ≤ mi'.2.2.1) (hroom : fr' + 1 ≤ fr ∧ 8 + (mi'.2.2.1 + 11) + lo' ≤ lo) (hmc : mc' ≤ c0) (hms : ms' ≤ s0) (hst : st.length ≤ 8)
    (hc : am_R mi' post' fr' lo' mc' ms' 0 (am_ent [.ref q] mi'.2.2.1) [] sh I P) (k : ∀ r sh' I' P', post' r sh' I' P' → am_R mi post fr lo (c0 - mc') (s0 - ms') (pc + 3) lv ((r.map Value.int).toList ++ st) sh' I' P') : am_R mi post fr lo c0 s0 pc lv (.ref q :: st) sh I P :=
  am_callV [] d hM hi hl hs hci rfl hmx hroom hmc hms hst hc k
theorem r_callV1 {a1 : Value} (d : decode mi.2.1 pc = .ok (.invokevirtual idx, 3)) (hM : am_M mi' 1) (hi : Cond.instanceMethod mi'.1 ∈ am_tb ∧ Cond.selects mi'.1.cls mi'.1 mi'.1 ∈ am_tb) (hl : Cond.methodLink mi.1.cls idx mi'.1 ∈ am_tb) (hs : sh q = (1, ci)) (hci : ∃ T N, am_cl[ci]? = some (mi'.1.cls, T, N)) (hmx : 2 ≤ mi'.2.2.1) (hroom : fr' + 1 ≤ fr ∧ 8 + (mi'.2.2.1 + 11) + lo' ≤ lo) (hmc : mc' ≤ c0) (hms : ms' ≤ s0) (hst : st.length ≤ 8)
    (hc : am_R mi' post' fr' lo' mc' ms' 0 (am_ent [.ref q, a1] mi'.2.2.1) [] sh I P) (k : ∀ r sh' I' P', post' r sh' I' P' → am_R mi post fr lo (c0 - mc') (s0 - ms') (pc + 3) lv ((r.map Value.int).toList ++ st) sh' I' P') : am_R mi post fr lo c0 s0 pc lv (a1 :: .ref q :: st) sh I P :=
  am_callV [a1] d hM hi hl hs hci rfl hmx hroom hmc hms hst hc k
theorem r_callS1 {a1 : Value} (d : decode mi.2.1 pc = .ok (.invokestatic idx, 3)) (hM : am_M mi' 1) (hi : Cond.static mi'.1 ∈ am_tb) (hl : Cond.methodLink mi.1.cls idx mi'.1 ∈ am_tb) (hmx : 1 ≤ mi'.2.2.1) (hroom : fr' + 1 ≤ fr ∧ 8 + (mi'.2.2.1 + 11) + lo' ≤ lo) (hmc : mc' ≤ c0) (hms : ms' ≤ s0) (hst : st.length ≤ 8)
    (hc : am_R mi' post' fr' lo' mc' ms' 0 (am_ent [a1] mi'.2.2.1) [] sh I P) (k : ∀ r sh' I' P', post' r sh' I' P' → am_R mi post fr lo (c0 - mc') (s0 - ms') (pc + 3) lv ((r.map Value.int).toList ++ st) sh' I' P') : am_R mi post fr lo c0 s0 pc lv (a1 :: st) sh I P :=
  am_callS [a1] d hM hi hl rfl hmx hroom hmc hms hst hc k
theorem r_callV2 {a1 a2 : Value} (d : decode mi.2.1 pc = .ok (.invokevirtual idx, 3)) (hM : am_M mi' 2) (hi : Cond.instanceMethod mi'.1 ∈ am_tb ∧ Cond.selects mi'.1.cls mi'.1 mi'.1 ∈ am_tb) (hl : Cond.methodLink mi.1.cls idx mi'.1 ∈ am_tb) (hs : sh q = (1, ci)) (hci : ∃ T N, am_cl[ci]? = some (mi'.1.cls, T, N)) (hmx : 3 ≤ mi'.2.2.1) (hroom : fr' + 1 ≤ fr ∧ 8 + (mi'.2.2.1 + 11) + lo' ≤ lo) (hmc : mc' ≤ c0) (hms : ms' ≤ s0) (hst : st.length ≤ 8)
    (hc : am_R mi' post' fr' lo' mc' ms' 0 (am_ent [.ref q, a1, a2] mi'.2.2.1) [] sh I P) (k : ∀ r sh' I' P', post' r sh' I' P' → am_R mi post fr lo (c0 - mc') (s0 - ms') (pc + 3) lv ((r.map Value.int).toList ++ st) sh' I' P') : am_R mi post fr lo c0 s0 pc lv (a2 :: a1 :: .ref q :: st) sh I P :=
  am_callV [a1, a2] d hM hi hl hs hci rfl hmx hroom hmc hms hst hc k
theorem r_callS2 {a1 a2 : Value} (d : decode mi.2.1 pc = .ok (.invokestatic idx, 3)) (hM : am_M mi' 2) (hi : Cond.static mi'.1 ∈ am_tb) (hl : Cond.methodLink mi.1.cls idx mi'.1 ∈ am_tb) (hmx : 2 ≤ mi'.2.2.1) (hroom : fr' + 1 ≤ fr ∧ 8 + (mi'.2.2.1 + 11) + lo' ≤ lo) (hmc : mc' ≤ c0) (hms : ms' ≤ s0) (hst : st.length ≤ 8)
    (hc : am_R mi' post' fr' lo' mc' ms' 0 (am_ent [a1, a2] mi'.2.2.1) [] sh I P) (k : ∀ r sh' I' P', post' r sh' I' P' → am_R mi post fr lo (c0 - mc') (s0 - ms') (pc + 3) lv ((r.map Value.int).toList ++ st) sh' I' P') : am_R mi post fr lo c0 s0 pc lv (a2 :: a1 :: st) sh I P :=
  am_callS [a1, a2] d hM hi hl rfl hmx hroom hmc hms hst hc k
theorem r_callV3 {a1 a2 a3 : Value} (d : decode mi.2.1 pc = .ok (.invokevirtual idx, 3)) (hM : am_M mi' 3) (hi : Cond.instanceMethod mi'.1 ∈ am_tb ∧ Cond.selects mi'.1.cls mi'.1 mi'.1 ∈ am_tb) (hl : Cond.methodLink mi.1.cls idx mi'.1 ∈ am_tb) (hs : sh q = (1, ci)) (hci : ∃ T N, am_cl[ci]? = some (mi'.1.cls, T, N)) (hmx : 4 ≤ mi'.2.2.1) (hroom : fr' + 1 ≤ fr ∧ 8 + (mi'.2.2.1 + 11) + lo' ≤ lo) (hmc : mc' ≤ c0) (hms : ms' ≤ s0) (hst : st.length ≤ 8)
    (hc : am_R mi' post' fr' lo' mc' ms' 0 (am_ent [.ref q, a1, a2, a3] mi'.2.2.1) [] sh I P) (k : ∀ r sh' I' P', post' r sh' I' P' → am_R mi post fr lo (c0 - mc') (s0 - ms') (pc + 3) lv ((r.map Value.int).toList ++ st) sh' I' P') : am_R mi post fr lo c0 s0 pc lv (a3 :: a2 :: a1 :: .ref q :: st) sh I P :=
  am_callV [a1, a2, a3] d hM hi hl hs hci rfl hmx hroom hmc hms hst hc k
theorem r_callS3 {a1 a2 a3 : Value} (d : decode mi.2.1 pc = .ok (.invokestatic idx, 3)) (hM : am_M mi' 3) (hi : Cond.static mi'.1 ∈ am_tb) (hl : Cond.methodLink mi.1.cls idx mi'.1 ∈ am_tb) (hmx : 3 ≤ mi'.2.2.1) (hroom : fr' + 1 ≤ fr ∧ 8 + (mi'.2.2.1 + 11) + lo' ≤ lo) (hmc : mc' ≤ c0) (hms : ms' ≤ s0) (hst : st.length ≤ 8)
    (hc : am_R mi' post' fr' lo' mc' ms' 0 (am_ent [a1, a2, a3] mi'.2.2.1) [] sh I P) (k : ∀ r sh' I' P', post' r sh' I' P' → am_R mi post fr lo (c0 - mc') (s0 - ms') (pc + 3) lv ((r.map Value.int).toList ++ st) sh' I' P') : am_R mi post fr lo c0 s0 pc lv (a3 :: a2 :: a1 :: st) sh I P :=
  am_callS [a1, a2, a3] d hM hi hl rfl hmx hroom hmc hms hst hc k
theorem r_callV4 {a1 a2 a3 a4 : Value} (d : decode mi.2.1 pc = .ok (.invokevirtual idx, 3)) (hM : am_M mi' 4) (hi : Cond.instanceMethod mi'.1 ∈ am_tb ∧ Cond.selects mi'.1.cls mi'.1 mi'.1 ∈ am_tb) (hl : Cond.methodLink mi.1.cls idx mi'.1 ∈ am_tb) (hs : sh q = (1, ci)) (hci : ∃ T N, am_cl[ci]? = some (mi'.1.cls, T, N)) (hmx : 5 ≤ mi'.2.2.1) (hroom : fr' + 1 ≤ fr ∧ 8 + (mi'.2.2.1 + 11) + lo' ≤ lo) (hmc : mc' ≤ c0) (hms : ms' ≤ s0) (hst : st.length ≤ 8)
    (hc : am_R mi' post' fr' lo' mc' ms' 0 (am_ent [.ref q, a1, a2, a3, a4] mi'.2.2.1) [] sh I P) (k : ∀ r sh' I' P', post' r sh' I' P' → am_R mi post fr lo (c0 - mc') (s0 - ms') (pc + 3) lv ((r.map Value.int).toList ++ st) sh' I' P') : am_R mi post fr lo c0 s0 pc lv (a4 :: a3 :: a2 :: a1 :: .ref q :: st) sh I P :=
  am_callV [a1, a2, a3, a4] d hM hi hl hs hci rfl hmx hroom hmc hms hst hc k
theorem r_callS4 {a1 a2 a3 a4 : Value} (d : decode mi.2.1 pc = .ok (.invokestatic idx, 3)) (hM : am_M mi' 4) (hi : Cond.static mi'.1 ∈ am_tb) (hl : Cond.methodLink mi.1.cls idx mi'.1 ∈ am_tb) (hmx : 4 ≤ mi'.2.2.1) (hroom : fr' + 1 ≤ fr ∧ 8 + (mi'.2.2.1 + 11) + lo' ≤ lo) (hmc : mc' ≤ c0) (hms : ms' ≤ s0) (hst : st.length ≤ 8)
    (hc : am_R mi' post' fr' lo' mc' ms' 0 (am_ent [a1, a2, a3, a4] mi'.2.2.1) [] sh I P) (k : ∀ r sh' I' P', post' r sh' I' P' → am_R mi post fr lo (c0 - mc') (s0 - ms') (pc + 3) lv ((r.map Value.int).toList ++ st) sh' I' P') : am_R mi post fr lo c0 s0 pc lv (a4 :: a3 :: a2 :: a1 :: st) sh I P :=
  am_callS [a1, a2, a3, a4] d hM hi hl rfl hmx hroom hmc hms hst hc k
theorem r_callV5 {a1 a2 a3 a4 a5 : Value} (d : decode mi.2.1 pc = .ok (.invokevirtual idx, 3)) (hM : am_M mi' 5) (hi : Cond.instanceMethod mi'.1 ∈ am_tb ∧ Cond.selects mi'.1.cls mi'.1 mi'.1 ∈ am_tb) (hl : Cond.methodLink mi.1.cls idx mi'.1 ∈ am_tb) (hs : sh q = (1, ci)) (hci : ∃ T N, am_cl[ci]? = some (mi'.1.cls, T, N)) (hmx : 6 ≤ mi'.2.2.1) (hroom : fr' + 1 ≤ fr ∧ 8 + (mi'.2.2.1 + 11) + lo' ≤ lo) (hmc : mc' ≤ c0) (hms : ms' ≤ s0) (hst : st.length ≤ 8)
    (hc : am_R mi' post' fr' lo' mc' ms' 0 (am_ent [.ref q, a1, a2, a3, a4, a5] mi'.2.2.1) [] sh I P) (k : ∀ r sh' I' P', post' r sh' I' P' → am_R mi post fr lo (c0 - mc') (s0 - ms') (pc + 3) lv ((r.map Value.int).toList ++ st) sh' I' P') : am_R mi post fr lo c0 s0 pc lv (a5 :: a4 :: a3 :: a2 :: a1 :: .ref q :: st) sh I P :=
  am_callV [a1, a2, a3, a4, a5] d hM hi hl hs hci rfl hmx hroom hmc hms hst hc k
theorem r_callS5 {a1 a2 a3 a4 a5 : Value} (d : decode mi.2.1 pc = .ok (.invokestatic idx, 3)) (hM : am_M mi' 5) (hi : Cond.static mi'.1 ∈ am_tb) (hl : Cond.methodLink mi.1.cls idx mi'.1 ∈ am_tb) (hmx : 5 ≤ mi'.2.2.1) (hroom : fr' + 1 ≤ fr ∧ 8 + (mi'.2.2.1 + 11) + lo' ≤ lo) (hmc : mc' ≤ c0) (hms : ms' ≤ s0) (hst : st.length ≤ 8)
    (hc : am_R mi' post' fr' lo' mc' ms' 0 (am_ent [a1, a2, a3, a4, a5] mi'.2.2.1) [] sh I P) (k : ∀ r sh' I' P', post' r sh' I' P' → am_R mi post fr lo (c0 - mc') (s0 - ms') (pc + 3) lv ((r.map Value.int).toList ++ st) sh' I' P') : am_R mi post fr lo c0 s0 pc lv (a5 :: a4 :: a3 :: a2 :: a1 :: st) sh I P :=
  am_callS [a1, a2, a3, a4, a5] d hM hi hl rfl hmx hroom hmc hms hst hc k
theorem r_callI0 (d : decode mi.2.1 pc = .ok (.invokespecial idx, 3)) (hM : am_M mi' 0) (hret : mi'.2.2.2 = none) (hi : Cond.instanceMethod mi'.1 ∈ am_tb) (hnm2 : mi'.1.name = "<init>") (hl : Cond.methodLink mi.1.cls idx mi'.1 ∈ am_tb) (hmx : 1 ≤ mi'.2.2.1) (hroom : fr' + 1 ≤ fr ∧ 8 + (mi'.2.2.1 + 11) + lo' ≤ lo) (hmc : mc' ≤ c0) (hms : ms' ≤ s0) (hst : st.length ≤ 8)
    (hc : am_R mi' post' fr' lo' mc' ms' 0 (am_ent [.ref q] mi'.2.2.1) [] sh I P) (k : ∀ r sh' I' P', post' r sh' I' P' → am_R mi post fr lo (c0 - mc') (s0 - ms') (pc + 3) lv ((r.map Value.int).toList ++ st) sh' I' P') : am_R mi post fr lo c0 s0 pc lv (.ref q :: st) sh I P :=
  am_callI [] d hM hret hi hnm2 hl rfl hmx hroom hmc hms hst hc k
theorem r_callN0 (d : decode mi.2.1 pc = .ok (.invokespecial idx, 3)) (hM : am_M mi' 0) (hret : mi'.2.2.2 = none) (hi : Cond.instanceMethod mi'.1 ∈ am_tb) (hnm2 : mi'.1.name = "<init>") (host : String) (hl : (mi.1.cls, idx, mi'.1, host) ∈ am_ne) (hmx : 1 ≤ mi'.2.2.1) (hroom : fr' + 1 ≤ fr ∧ 8 + (mi'.2.2.1 + 11) + lo' ≤ lo) (hmc : mc' ≤ c0) (hms : ms' ≤ s0) (hst : st.length ≤ 8)
    (hc : am_R mi' post' fr' lo' mc' ms' 0 (am_ent [.ref q] mi'.2.2.1) [] sh I P) (k : ∀ r sh' I' P', post' r sh' I' P' → am_R mi post fr lo (c0 - mc') (s0 - ms') (pc + 3) lv ((r.map Value.int).toList ++ st) sh' I' P') : am_R mi post fr lo c0 s0 pc lv (.ref q :: st) sh I P :=
  am_callN [] d hM hret hi hnm2 host hl rfl hmx hroom hmc hms hst hc k
/-- a fixed table of sixteen ints, read at an int that lies in the frame -/
theorem r_tab {j : Fin 4} {x : Int32} (w i : Nat) (hw : w < 4) (d1 : decode mi.2.1 pc = .ok (.getstatic idx, 3)) (d2 : decode mi.2.1 (pc + 3) = .ok (.iload_n j, 1)) (d3 : decode mi.2.1 (pc + 4) = .ok (.iaload, 1)) (hl : Cond.fieldLink mi.1.cls idx RX1 (am_sn w) "[I" ∈ am_tb) (h : lv[(j : Nat)]? = some (some (.int x))) (hx : x = nI i) (hi : i < 16) (k : am_R mi post fr lo c0 s0 (pc + 5) lv (.int (am_st w i) :: st) sh I P) : am_R mi post fr lo c0 s0 pc lv st sh I P := by
  intro l p e R s m args below meth c D t A sh0 ad0 ad mc ms H locs cells slots ls C hc0 hs0 X
  obtain ⟨hx0, hb, hml, hr, hown, hts, hlk, hnm, hroom, hN, hA⟩ := id C
  obtain ⟨x1, x2, x3, x4, x5, x6⟩ := X
  subst hx
  obtain ⟨a, hZ, cell, h1, h2, h3, h4, h5, h6, h7⟩ := hN.2.2.2 w hw
  have hcell : H[a]? = some cell := by rw [x3.2.1 a (Array.getElem?_eq_some_iff.mp h1).1 h7]; exact h1
  refine va_gets hx0 hb hZ x3 hown (hts _ hl) (fun _ h9 => h9) d1 ?_
  refine lv_iload_n hx0 hb d2 rfl (x4.2.2.2 _ _ h) ?_
  exact W.iald (v := .int (am_st w i)) hx0 hb hcell h2 h3 (by rw [nI_clamp (by omega)]; intro h9; rcases h9 with h9 | h9; exact nI_pos (by omega) h9; omega) (by rw [nI_clamp (by omega)]; exact h6 i hi) rfl rfl d3
    (k l p e R s m args below meth c D t A sh0 ad0 ad mc ms H locs cells slots ls C hc0 hs0 ⟨x1, x2, x3, x4, am_okc trivial x5, x6⟩)
theorem r_max {x y : Int32} (d : decode mi.2.1 pc = .ok (.invokestatic idx, 3)) (hw : Cond.methodLink mi.1.cls idx Lib.Math.max.name ∈ am_tb ∧ Cond.static Lib.Math.max.name ∈ am_tb ∧ Cond.initialized "java/lang/Math" ∈ am_tb ∧ Cond.code Lib.Math.max.name Lib.Math.max.code 2 (some .int) ∈ am_tb) (hroom : 1 ≤ fr ∧ st.length + 13 ≤ lo) (k : am_R mi post fr lo c0 s0 (pc + 3) lv (.int (if x < y then y else x) :: st) sh I P) : am_R mi post fr lo c0 s0 pc lv (.int y :: .int x :: st) sh I P := by
  intro l p e R s m args below meth c D t A sh0 ad0 ad mc ms H locs cells slots ls C hc0 hs0 X
  obtain ⟨hx0, hb, hml, hr, hown, hts, hlk, hnm, hrm, hN, hA⟩ := id C
  obtain ⟨x1, x2, x3, x4, x5, x6⟩ := X
  have h1 := am_sum ad (am_okt (am_okt x5))
  exact va_mmax hx0 hb (by rw [hml]; exact x4.2.1.symm) hown (hts _ hw.1) (hts _ hw.2.1) (hts _ hw.2.2.1) (hts _ hw.2.2.2) (rest := st.map (cv ad)) (by omega) (by omega) (by omega) (by omega) d
    (k l p e R s m args below meth c D t A sh0 ad0 ad mc ms H locs cells slots ls C hc0 hs0 ⟨x1, x2, x3, x4, am_okc trivial (am_okt (am_okt x5)), x6⟩)
theorem r_copy {q0 q1 n0 n1 : Nat} {x y z : Int32} (sp dp n : Nat) (d : decode mi.2.1 pc = .ok (.invokestatic idx, 3)) (hw : Cond.methodLink mi.1.cls idx arraycopyName ∈ am_tb ∧ Cond.native arraycopyName ∈ am_tb ∧ Cond.static arraycopyName ∈ am_tb ∧ Cond.initialized "java/lang/System" ∈ am_tb) (hs0 : sh q0 = (2, n0)) (hs1 : sh q1 = (2, n1)) (hx : x = nI sp) (hy : y = nI dp) (hz : z = nI n) (h0 : sp + n ≤ n0) (h1 : dp + n ≤ n1) (hn0 : n0 < 2147483648) (hn1 : n1 < 2147483648) (hroom : 1 ≤ fr ∧ st.length + (nativeFrameWords "java/lang/System" "arraycopy" 5 + 11) ≤ lo) (k : am_R mi post fr lo c0 s0 (pc + 3) lv st sh (va_up I q1 (va_cpy (I q0) (I q1) sp dp n)) P) : am_R mi post fr lo c0 s0 pc lv (.int z :: .int y :: .ref q1 :: .int x :: .ref q0 :: st) sh I P := by
  intro l p e R s m args below meth c D t A sh0 ad0 ad mc ms H locs cells slots ls C hc0 hsl0 X
  obtain ⟨hx0, hb, hml, hr, hown, hts, hlk, hnm, hrm, hN, hA⟩ := id C
  obtain ⟨x1, x2, x3, x4, x5, x6⟩ := X
  subst hx hy hz
  have hst2 := am_okt (am_okt (am_okt (am_okt (am_okt x5))))
  have hsum := am_sum ad hst2
  have hsp : (nI sp).toNatClampNeg = sp := nI_clamp (by omega)
  have hdp : (nI dp).toNatClampNeg = dp := nI_clamp (by omega)
  have hnn : (nI n).toNatClampNeg = n := nI_clamp (by omega)
  have hc0' : H[ad q0]? = some (vp_cell (t 0) (n0, .inl (I q0))) := x1.at hs0
  have hc1' : H[ad q1]? = some (vp_cell (t 0) (n1, .inl (I q1))) := x1.at hs1
  intro T hT XS
  obtain ⟨-, k0, hk0, cm0, hkk0⟩ := (hN.1.2 0 _ rfl).1 n0 (fun j => .int (I q0 j))
  obtain ⟨vm', X', step⟩ := XS.arraycopy hx0 hown (hts _ hw.1) (hts _ hw.2.1) (hts _ hw.2.2.1) (hts _ hw.2.2.2) (src := ad q0) (dst := ad q1) (cs := vp_cell (t 0) (n0, .inl (I q0))) (cd := vp_cell (t 0) (n1, .inl (I q1))) (srcPos := nI sp) (destPos := nI dp) (n := nI n) (by rw [hT]; exact hc0') (by rw [hT]; exact hc1')
    (fun _ h => by cases h) (fun _ h => by cases h) (fun h => by cases h) (fun h => by cases h) hk0 hk0 hkk0 hkk0 (by simp [refKind]) (nI_pos (by omega)) (nI_pos (by omega)) (nI_pos (by omega))
    (by rw [nI_toInt (by omega), nI_toInt (by omega)]; show ¬ _ > ((arrV (t 0) n0 (fun j => .int (I q0 j))).slots.size : Int); rw [arrV_size]; omega)
    (by rw [nI_toInt (by omega), nI_toInt (by omega)]; show ¬ _ > ((arrV (t 0) n1 (fun j => .int (I q1 j))).slots.size : Int); rw [arrV_size]; omega)
    (fun vm₁ _ i hi => by
      rw [hnn] at hi
      have e : (vp_cell (t 0) (n0, .inl (I q0))).slots.getD ((nI sp).toNatClampNeg + i) .null = .int (I q0 ((nI sp).toNatClampNeg + i)) := by
        show (arrV (t 0) n0 (fun j => .int (I q0 j))).slots.getD _ _ = _
        rw [Array.getD_eq_getD_getElem?, arrV_read _ _ (by rw [hsp]; omega)]
        rfl
      refine ⟨?_, ?_⟩
      · rw [e]
        rfl
      · rw [e]
        exact trivial)
    (g := F0 m pc ls (.int (nI n) :: .int (nI dp) :: .ref (ad q1) :: .int (nI sp) :: .ref (ad q0) :: st.map (cv ad))) rfl (by rw [hml]; exact x4.2.1) (rest := st.map (cv ad)) rfl (by rw [hb]; exact d) (by omega) (by show 2 * 0 + _ + _ ≤ _; omega)
  have e1 : copied (vp_cell (t 0) (n0, .inl (I q0))) (vp_cell (t 0) (n1, .inl (I q1))) (nI sp) (nI dp) (nI n) = vp_cell (t 0) (n1, .inl (va_cpy (I q0) (I q1) (nI sp).toNatClampNeg (nI dp).toNatClampNeg (nI n).toNatClampNeg)) := va_copied (fun z => .int z) (t 0) (t 0) (I q0) (I q1) (by rw [hsp, hnn]; exact h0)
  rw [e1, hsp, hdp, hnn] at X' step
  have hl : ad q1 < H.size := (Array.getElem?_eq_some_iff.mp hc1').1
  have hheap : ((T.setVm vm').setCell (ad q1) (vp_cell (t 0) (n1, .inl (va_cpy (I q0) (I q1) sp dp n)))).heap = H.setIfInBounds (ad q1) (vp_cell (t 0) (n1, .inl (va_cpy (I q0) (I q1) sp dp n))) := by rw [← hT]; rfl
  have oq : ∀ a : Nat, a ≠ ad q1 → (H.setIfInBounds (ad q1) (vp_cell (t 0) (n1, .inl (va_cpy (I q0) (I q1) sp dp n))))[a]? = H[a]? := fun a ha => by simp [Array.getElem?_setIfInBounds, Ne.symm ha]
  have hq1 : (sh q1).1 ≠ 0 := by rw [hs1]; exact Nat.succ_ne_zero _
  obtain ⟨u, a1, b1⟩ := k l p e R s m args below meth c D t A sh0 ad0 ad mc ms _ _ cells slots ls C hc0 hsl0 ⟨x1.setI hq1 (by rw [hs1]; show (H.setIfInBounds (ad q1) _)[ad q1]? = some _; simp only [Array.getElem?_setIfInBounds, hl]; rfl) oq, x2, ⟨by simp; exact x3.1, fun a g1 g2 => by
      rw [oq a (fun e => g2 (by rw [e]; exact x1.1 q1 hq1))]
      exact x3.2.1 a g1 g2, fun a ha => by
      rcases List.mem_append.mp ha with h | h
      · exact x3.2.2 a h
      · obtain ⟨z, -, hz⟩ := List.mem_map.mp h
        rw [← hz]
        exact x1.1 q1 hq1⟩, x4, hst2, x6⟩ _ hheap X'
  exact ⟨u, step u a1, b1⟩
end AMV
end
section
/-! what the tables say -/
theorem wi_0 : ∀ w ∈ u_ws RX0 TX0 15, w ∈ am_tb := by decide +kernel
theorem wi_1 : ∀ w ∈ u_ws RX2 TX2 9, w ∈ am_tb := by decide +kernel
theorem wi_2 : ∀ w ∈ u_ws RX3 TX3 5, w ∈ am_tb := by decide +kernel
theorem wi_3 : ∀ w ∈ u_ws RX5 TX5 2, w ∈ am_tb := by decide +kernel
theorem wi_4 : ∀ w ∈ u_ws RX6 TX6 9, w ∈ am_tb := by decide +kernel
theorem wi_5 : ∀ w ∈ u_ws RX7 TX7 8, w ∈ am_tb := by decide +kernel
theorem wi_6 : ∀ w ∈ u_ws RX8 TX8 3, w ∈ am_tb := by decide +kernel
theorem wi_7 : ∀ w ∈ u_ws RX9 TX9 3, w ∈ am_tb := by decide +kernel
theorem wi_8 : ∀ w ∈ u_ws RX10 TX10 4, w ∈ am_tb := by decide +kernel
theorem wi_9 : ∀ w ∈ u_ws RX11 TX11 48, w ∈ am_tb := by decide +kernel
theorem f_X5_15 : am_F RX5 15 3 0 false := ⟨RX5, TX5, 2, rfl, by decide, wi_3, (am_in 38 (by decide +kernel) rfl), rfl, tyX5_ok, nmX5, (fun h => by cases h)⟩
theorem g_X5_15 : am_G RX5 15 3 0 := f_X5_15.g
theorem f_X0_60 : am_F RX0 60 3 0 false := ⟨RX5, TX5, 2, rfl, by decide, wi_3, (am_in 39 (by decide +kernel) rfl), rfl, tyX5_ok, nmX5, (fun h => by cases h)⟩
theorem g_X0_60 : am_G RX0 60 3 0 := f_X0_60.g
theorem f_X8_41 : am_F RX8 41 3 0 false := ⟨RX5, TX5, 2, rfl, by decide, wi_3, (am_in 40 (by decide +kernel) rfl), rfl, tyX5_ok, nmX5, (fun h => by cases h)⟩
theorem g_X8_41 : am_G RX8 41 3 0 := f_X8_41.g
theorem f_X10_98 : am_F RX10 98 3 0 false := ⟨RX5, TX5, 2, rfl, by decide, wi_3, (am_in 41 (by decide +kernel) rfl), rfl, tyX5_ok, nmX5, (fun h => by cases h)⟩
theorem g_X10_98 : am_G RX10 98 3 0 := f_X10_98.g
theorem f_X5_11 : am_F RX5 11 3 1 true := ⟨RX5, TX5, 2, rfl, by decide, wi_3, (am_in 42 (by decide +kernel) rfl), rfl, tyX5_ok, nmX5, (fun _ => rfl)⟩
theorem g_X5_11 : am_G RX5 11 3 1 := f_X5_11.g
theorem f_X3_22 : am_F RX3 22 2 0 false := ⟨RX3, TX3, 5, rfl, by decide, wi_2, (am_in 61 (by decide +kernel) rfl), rfl, tyX3_ok, nmX3, (fun h => by cases h)⟩
theorem g_X3_22 : am_G RX3 22 2 0 := f_X3_22.g
theorem f_X9_23 : am_F RX9 23 2 0 false := ⟨RX3, TX3, 5, rfl, by decide, wi_2, (am_in 62 (by decide +kernel) rfl), rfl, tyX3_ok, nmX3, (fun h => by cases h)⟩
theorem g_X9_23 : am_G RX9 23 2 0 := f_X9_23.g
theorem f_X0_92 : am_F RX0 92 2 0 false := ⟨RX3, TX3, 5, rfl, by decide, wi_2, (am_in 63 (by decide +kernel) rfl), rfl, tyX3_ok, nmX3, (fun h => by cases h)⟩
theorem g_X0_92 : am_G RX0 92 2 0 := f_X0_92.g
theorem f_X10_58 : am_F RX10 58 2 0 false := ⟨RX3, TX3, 5, rfl, by decide, wi_2, (am_in 64 (by decide +kernel) rfl), rfl, tyX3_ok, nmX3, (fun h => by cases h)⟩
theorem g_X10_58 : am_G RX10 58 2 0 := f_X10_58.g
theorem f_X2_49 : am_F RX2 49 2 0 false := ⟨RX3, TX3, 5, rfl, by decide, wi_2, (am_in 65 (by decide +kernel) rfl), rfl, tyX3_ok, nmX3, (fun h => by cases h)⟩
theorem g_X2_49 : am_G RX2 49 2 0 := f_X2_49.g
theorem f_X3_9 : am_F RX3 9 2 1 true := ⟨RX3, TX3, 5, rfl, by decide, wi_2, (am_in 66 (by decide +kernel) rfl), rfl, tyX3_ok, nmX3, (fun _ => rfl)⟩
theorem g_X3_9 : am_G RX3 9 2 1 := f_X3_9.g
theorem g_X9_35 : am_G RX9 35 2 1 := ⟨RX3, TX3, 5, rfl, by decide, wi_2, (am_in 67 (by decide +kernel) rfl)⟩
theorem g_X0_105 : am_G RX0 105 2 1 := ⟨RX3, TX3, 5, rfl, by decide, wi_2, (am_in 68 (by decide +kernel) rfl)⟩
theorem g_X6_70 : am_G RX6 70 2 1 := ⟨RX3, TX3, 5, rfl, by decide, wi_2, (am_in 69 (by decide +kernel) rfl)⟩
theorem g_X10_67 : am_G RX10 67 2 1 := ⟨RX3, TX3, 5, rfl, by decide, wi_2, (am_in 70 (by decide +kernel) rfl)⟩
theorem g_X2_60 : am_G RX2 60 2 1 := ⟨RX3, TX3, 5, rfl, by decide, wi_2, (am_in 71 (by decide +kernel) rfl)⟩
theorem f_X3_13 : am_F RX3 13 2 2 true := ⟨RX3, TX3, 5, rfl, by decide, wi_2, (am_in 72 (by decide +kernel) rfl), rfl, tyX3_ok, nmX3, (fun _ => rfl)⟩
theorem g_X3_13 : am_G RX3 13 2 2 := f_X3_13.g
theorem g_X10_71 : am_G RX10 71 2 2 := ⟨RX3, TX3, 5, rfl, by decide, wi_2, (am_in 73 (by decide +kernel) rfl)⟩
theorem g_X6_84 : am_G RX6 84 2 2 := ⟨RX3, TX3, 5, rfl, by decide, wi_2, (am_in 74 (by decide +kernel) rfl)⟩
theorem g_X2_69 : am_G RX2 69 2 2 := ⟨RX3, TX3, 5, rfl, by decide, wi_2, (am_in 75 (by decide +kernel) rfl)⟩
theorem f_X3_16 : am_F RX3 16 2 3 true := ⟨RX3, TX3, 5, rfl, by decide, wi_2, (am_in 76 (by decide +kernel) rfl), rfl, tyX3_ok, nmX3, (fun _ => rfl)⟩
theorem g_X3_16 : am_G RX3 16 2 3 := f_X3_16.g
theorem g_X6_81 : am_G RX6 81 2 3 := ⟨RX3, TX3, 5, rfl, by decide, wi_2, (am_in 77 (by decide +kernel) rfl)⟩
theorem g_X10_74 : am_G RX10 74 2 3 := ⟨RX3, TX3, 5, rfl, by decide, wi_2, (am_in 78 (by decide +kernel) rfl)⟩
theorem f_X3_19 : am_F RX3 19 2 4 true := ⟨RX3, TX3, 5, rfl, by decide, wi_2, (am_in 79 (by decide +kernel) rfl), rfl, tyX3_ok, nmX3, (fun _ => rfl)⟩
theorem g_X3_19 : am_G RX3 19 2 4 := f_X3_19.g
theorem f_X2_34 : am_F RX2 34 1 0 false := ⟨RX2, TX2, 9, rfl, by decide, wi_1, (am_in 91 (by decide +kernel) rfl), rfl, tyX2_ok, nmX2, (fun h => by cases h)⟩
theorem g_X2_34 : am_G RX2 34 1 0 := f_X2_34.g
theorem f_X10_140 : am_F RX10 140 1 0 false := ⟨RX2, TX2, 9, rfl, by decide, wi_1, (am_in 92 (by decide +kernel) rfl), rfl, tyX2_ok, nmX2, (fun h => by cases h)⟩
theorem g_X10_140 : am_G RX10 140 1 0 := f_X10_140.g
theorem f_X2_12 : am_F RX2 12 1 1 true := ⟨RX2, TX2, 9, rfl, by decide, wi_1, (am_in 93 (by decide +kernel) rfl), rfl, tyX2_ok, nmX2, (fun _ => rfl)⟩
theorem g_X2_12 : am_G RX2 12 1 1 := f_X2_12.g
theorem g_X10_148 : am_G RX10 148 1 1 := ⟨RX2, TX2, 9, rfl, by decide, wi_1, (am_in 94 (by decide +kernel) rfl)⟩
theorem f_X2_38 : am_F RX2 38 1 2 false := ⟨RX2, TX2, 9, rfl, by decide, wi_1, (am_in 95 (by decide +kernel) rfl), rfl, tyX2_ok, nmX2, (fun h => by cases h)⟩
theorem g_X2_38 : am_G RX2 38 1 2 := f_X2_38.g
theorem f_X10_117 : am_F RX10 117 1 2 false := ⟨RX2, TX2, 9, rfl, by decide, wi_1, (am_in 96 (by decide +kernel) rfl), rfl, tyX2_ok, nmX2, (fun h => by cases h)⟩
theorem g_X10_117 : am_G RX10 117 1 2 := f_X10_117.g
theorem f_X2_18 : am_F RX2 18 1 3 true := ⟨RX2, TX2, 9, rfl, by decide, wi_1, (am_in 97 (by decide +kernel) rfl), rfl, tyX2_ok, nmX2, (fun _ => rfl)⟩
theorem g_X2_18 : am_G RX2 18 1 3 := f_X2_18.g
theorem g_X10_123 : am_G RX10 123 1 3 := ⟨RX2, TX2, 9, rfl, by decide, wi_1, (am_in 98 (by decide +kernel) rfl)⟩
theorem f_X2_22 : am_F RX2 22 1 4 true := ⟨RX2, TX2, 9, rfl, by decide, wi_1, (am_in 99 (by decide +kernel) rfl), rfl, tyX2_ok, nmX2, (fun _ => rfl)⟩
theorem g_X2_22 : am_G RX2 22 1 4 := f_X2_22.g
theorem g_X10_126 : am_G RX10 126 1 4 := ⟨RX2, TX2, 9, rfl, by decide, wi_1, (am_in 100 (by decide +kernel) rfl)⟩
theorem f_X2_25 : am_F RX2 25 1 5 true := ⟨RX2, TX2, 9, rfl, by decide, wi_1, (am_in 101 (by decide +kernel) rfl), rfl, tyX2_ok, nmX2, (fun _ => rfl)⟩
theorem g_X2_25 : am_G RX2 25 1 5 := f_X2_25.g
theorem g_X10_129 : am_G RX10 129 1 5 := ⟨RX2, TX2, 9, rfl, by decide, wi_1, (am_in 102 (by decide +kernel) rfl)⟩
theorem f_X2_42 : am_F RX2 42 1 6 false := ⟨RX2, TX2, 9, rfl, by decide, wi_1, (am_in 103 (by decide +kernel) rfl), rfl, tyX2_ok, nmX2, (fun h => by cases h)⟩
theorem g_X2_42 : am_G RX2 42 1 6 := f_X2_42.g
theorem f_X10_211 : am_F RX10 211 1 6 false := ⟨RX2, TX2, 9, rfl, by decide, wi_1, (am_in 104 (by decide +kernel) rfl), rfl, tyX2_ok, nmX2, (fun h => by cases h)⟩
theorem g_X10_211 : am_G RX10 211 1 6 := f_X10_211.g
theorem f_X2_28 : am_F RX2 28 1 7 true := ⟨RX2, TX2, 9, rfl, by decide, wi_1, (am_in 105 (by decide +kernel) rfl), rfl, tyX2_ok, nmX2, (fun _ => rfl)⟩
theorem g_X2_28 : am_G RX2 28 1 7 := f_X2_28.g
theorem g_X10_135 : am_G RX10 135 1 7 := ⟨RX2, TX2, 9, rfl, by decide, wi_1, (am_in 106 (by decide +kernel) rfl)⟩
theorem f_X2_31 : am_F RX2 31 1 8 true := ⟨RX2, TX2, 9, rfl, by decide, wi_1, (am_in 107 (by decide +kernel) rfl), rfl, tyX2_ok, nmX2, (fun _ => rfl)⟩
theorem g_X2_31 : am_G RX2 31 1 8 := f_X2_31.g
theorem f_X6_48 : am_F RX6 48 4 0 false := ⟨RX6, TX6, 9, rfl, by decide, wi_4, (am_in 133 (by decide +kernel) rfl), rfl, tyX6_ok, nmX6, (fun h => by cases h)⟩
theorem g_X6_48 : am_G RX6 48 4 0 := f_X6_48.g
theorem f_X10_156 : am_F RX10 156 4 0 false := ⟨RX6, TX6, 9, rfl, by decide, wi_4, (am_in 134 (by decide +kernel) rfl), rfl, tyX6_ok, nmX6, (fun h => by cases h)⟩
theorem g_X10_156 : am_G RX10 156 4 0 := f_X10_156.g
theorem f_X6_52 : am_F RX6 52 4 1 false := ⟨RX6, TX6, 9, rfl, by decide, wi_4, (am_in 135 (by decide +kernel) rfl), rfl, tyX6_ok, nmX6, (fun h => by cases h)⟩
theorem g_X6_52 : am_G RX6 52 4 1 := f_X6_52.g
theorem f_X10_157 : am_F RX10 157 4 1 false := ⟨RX6, TX6, 9, rfl, by decide, wi_4, (am_in 136 (by decide +kernel) rfl), rfl, tyX6_ok, nmX6, (fun h => by cases h)⟩
theorem g_X10_157 : am_G RX10 157 4 1 := f_X10_157.g
theorem f_X6_41 : am_F RX6 41 4 2 false := ⟨RX6, TX6, 9, rfl, by decide, wi_4, (am_in 137 (by decide +kernel) rfl), rfl, tyX6_ok, nmX6, (fun h => by cases h)⟩
theorem g_X6_41 : am_G RX6 41 4 2 := f_X6_41.g
theorem f_X10_160 : am_F RX10 160 4 2 false := ⟨RX6, TX6, 9, rfl, by decide, wi_4, (am_in 138 (by decide +kernel) rfl), rfl, tyX6_ok, nmX6, (fun h => by cases h)⟩
theorem g_X10_160 : am_G RX10 160 4 2 := f_X10_160.g
theorem f_X6_31 : am_F RX6 31 4 3 false := ⟨RX6, TX6, 9, rfl, by decide, wi_4, (am_in 139 (by decide +kernel) rfl), rfl, tyX6_ok, nmX6, (fun h => by cases h)⟩
theorem g_X6_31 : am_G RX6 31 4 3 := f_X6_31.g
theorem f_X10_169 : am_F RX10 169 4 3 false := ⟨RX6, TX6, 9, rfl, by decide, wi_4, (am_in 140 (by decide +kernel) rfl), rfl, tyX6_ok, nmX6, (fun h => by cases h)⟩
theorem g_X10_169 : am_G RX10 169 4 3 := f_X10_169.g
theorem f_X6_55 : am_F RX6 55 4 4 false := ⟨RX6, TX6, 9, rfl, by decide, wi_4, (am_in 141 (by decide +kernel) rfl), rfl, tyX6_ok, nmX6, (fun h => by cases h)⟩
theorem g_X6_55 : am_G RX6 55 4 4 := f_X6_55.g
theorem f_X10_163 : am_F RX10 163 4 4 false := ⟨RX6, TX6, 9, rfl, by decide, wi_4, (am_in 142 (by decide +kernel) rfl), rfl, tyX6_ok, nmX6, (fun h => by cases h)⟩
theorem g_X10_163 : am_G RX10 163 4 4 := f_X10_163.g
theorem f_X6_9 : am_F RX6 9 4 5 true := ⟨RX6, TX6, 9, rfl, by decide, wi_4, (am_in 143 (by decide +kernel) rfl), rfl, tyX6_ok, nmX6, (fun _ => rfl)⟩
theorem g_X6_9 : am_G RX6 9 4 5 := f_X6_9.g
theorem g_X10_172 : am_G RX10 172 4 5 := ⟨RX6, TX6, 9, rfl, by decide, wi_4, (am_in 144 (by decide +kernel) rfl)⟩
theorem f_X6_58 : am_F RX6 58 4 6 false := ⟨RX6, TX6, 9, rfl, by decide, wi_4, (am_in 145 (by decide +kernel) rfl), rfl, tyX6_ok, nmX6, (fun h => by cases h)⟩
theorem g_X6_58 : am_G RX6 58 4 6 := f_X6_58.g
theorem f_X10_166 : am_F RX10 166 4 6 false := ⟨RX6, TX6, 9, rfl, by decide, wi_4, (am_in 146 (by decide +kernel) rfl), rfl, tyX6_ok, nmX6, (fun h => by cases h)⟩
theorem g_X10_166 : am_G RX10 166 4 6 := f_X10_166.g
theorem f_X6_13 : am_F RX6 13 4 7 true := ⟨RX6, TX6, 9, rfl, by decide, wi_4, (am_in 147 (by decide +kernel) rfl), rfl, tyX6_ok, nmX6, (fun _ => rfl)⟩
theorem g_X6_13 : am_G RX6 13 4 7 := f_X6_13.g
theorem g_X10_179 : am_G RX10 179 4 7 := ⟨RX6, TX6, 9, rfl, by decide, wi_4, (am_in 148 (by decide +kernel) rfl)⟩
theorem f_X6_16 : am_F RX6 16 4 8 true := ⟨RX6, TX6, 9, rfl, by decide, wi_4, (am_in 149 (by decide +kernel) rfl), rfl, tyX6_ok, nmX6, (fun _ => rfl)⟩
theorem g_X6_16 : am_G RX6 16 4 8 := f_X6_16.g
theorem g_X10_182 : am_G RX10 182 4 8 := ⟨RX6, TX6, 9, rfl, by decide, wi_4, (am_in 150 (by decide +kernel) rfl)⟩
theorem f_X8_15 : am_F RX8 15 6 0 false := ⟨RX8, TX8, 3, rfl, by decide, wi_6, (am_in 176 (by decide +kernel) rfl), rfl, tyX8_ok, nmX8, (fun h => by cases h)⟩
theorem g_X8_15 : am_G RX8 15 6 0 := f_X8_15.g
theorem f_X10_206 : am_F RX10 206 6 0 false := ⟨RX8, TX8, 3, rfl, by decide, wi_6, (am_in 177 (by decide +kernel) rfl), rfl, tyX8_ok, nmX8, (fun h => by cases h)⟩
theorem g_X10_206 : am_G RX10 206 6 0 := f_X10_206.g
theorem f_X8_11 : am_F RX8 11 6 1 true := ⟨RX8, TX8, 3, rfl, by decide, wi_6, (am_in 178 (by decide +kernel) rfl), rfl, tyX8_ok, nmX8, (fun _ => rfl)⟩
theorem g_X8_11 : am_G RX8 11 6 1 := f_X8_11.g
theorem f_X8_24 : am_F RX8 24 6 2 false := ⟨RX8, TX8, 3, rfl, by decide, wi_6, (am_in 179 (by decide +kernel) rfl), rfl, tyX8_ok, nmX8, (fun h => by cases h)⟩
theorem g_X8_24 : am_G RX8 24 6 2 := f_X8_24.g
theorem f_X10_34 : am_F RX10 34 5 0 false := ⟨RX7, TX7, 8, rfl, by decide, wi_5, (am_in 188 (by decide +kernel) rfl), rfl, tyX7_ok, nmX7, (fun h => by cases h)⟩
theorem g_X10_34 : am_G RX10 34 5 0 := f_X10_34.g
theorem f_X7_47 : am_F RX7 47 5 0 false := ⟨RX7, TX7, 8, rfl, by decide, wi_5, (am_in 189 (by decide +kernel) rfl), rfl, tyX7_ok, nmX7, (fun h => by cases h)⟩
theorem g_X7_47 : am_G RX7 47 5 0 := f_X7_47.g
theorem f_X0_85 : am_F RX0 85 5 0 false := ⟨RX7, TX7, 8, rfl, by decide, wi_5, (am_in 190 (by decide +kernel) rfl), rfl, tyX7_ok, nmX7, (fun h => by cases h)⟩
theorem g_X0_85 : am_G RX0 85 5 0 := f_X0_85.g
theorem f_X7_11 : am_F RX7 11 5 1 true := ⟨RX7, TX7, 8, rfl, by decide, wi_5, (am_in 191 (by decide +kernel) rfl), rfl, tyX7_ok, nmX7, (fun _ => rfl)⟩
theorem g_X7_11 : am_G RX7 11 5 1 := f_X7_11.g
theorem g_X10_38 : am_G RX10 38 5 1 := ⟨RX7, TX7, 8, rfl, by decide, wi_5, (am_in 192 (by decide +kernel) rfl)⟩
theorem g_X0_88 : am_G RX0 88 5 1 := ⟨RX7, TX7, 8, rfl, by decide, wi_5, (am_in 193 (by decide +kernel) rfl)⟩
theorem f_X7_18 : am_F RX7 18 5 2 true := ⟨RX7, TX7, 8, rfl, by decide, wi_5, (am_in 194 (by decide +kernel) rfl), rfl, tyX7_ok, nmX7, (fun _ => rfl)⟩
theorem g_X7_18 : am_G RX7 18 5 2 := f_X7_18.g
theorem g_X10_86 : am_G RX10 86 5 2 := ⟨RX7, TX7, 8, rfl, by decide, wi_5, (am_in 195 (by decide +kernel) rfl)⟩
theorem f_X7_25 : am_F RX7 25 5 3 true := ⟨RX7, TX7, 8, rfl, by decide, wi_5, (am_in 196 (by decide +kernel) rfl), rfl, tyX7_ok, nmX7, (fun _ => rfl)⟩
theorem g_X7_25 : am_G RX7 25 5 3 := f_X7_25.g
theorem g_X10_107 : am_G RX10 107 5 3 := ⟨RX7, TX7, 8, rfl, by decide, wi_5, (am_in 197 (by decide +kernel) rfl)⟩
theorem f_X7_32 : am_F RX7 32 5 4 true := ⟨RX7, TX7, 8, rfl, by decide, wi_5, (am_in 198 (by decide +kernel) rfl), rfl, tyX7_ok, nmX7, (fun _ => rfl)⟩
theorem g_X7_32 : am_G RX7 32 5 4 := f_X7_32.g
theorem g_X10_144 : am_G RX10 144 5 4 := ⟨RX7, TX7, 8, rfl, by decide, wi_5, (am_in 199 (by decide +kernel) rfl)⟩
theorem f_X7_71 : am_F RX7 71 5 5 false := ⟨RX7, TX7, 8, rfl, by decide, wi_5, (am_in 200 (by decide +kernel) rfl), rfl, tyX7_ok, nmX7, (fun h => by cases h)⟩
theorem g_X7_71 : am_G RX7 71 5 5 := f_X7_71.g
theorem f_X10_185 : am_F RX10 185 5 5 false := ⟨RX7, TX7, 8, rfl, by decide, wi_5, (am_in 201 (by decide +kernel) rfl), rfl, tyX7_ok, nmX7, (fun h => by cases h)⟩
theorem g_X10_185 : am_G RX10 185 5 5 := f_X10_185.g
theorem f_X7_36 : am_F RX7 36 5 6 true := ⟨RX7, TX7, 8, rfl, by decide, wi_5, (am_in 202 (by decide +kernel) rfl), rfl, tyX7_ok, nmX7, (fun _ => rfl)⟩
theorem g_X7_36 : am_G RX7 36 5 6 := f_X7_36.g
theorem g_X0_56 : am_G RX0 56 5 6 := ⟨RX7, TX7, 8, rfl, by decide, wi_5, (am_in 203 (by decide +kernel) rfl)⟩
theorem g_X10_192 : am_G RX10 192 5 6 := ⟨RX7, TX7, 8, rfl, by decide, wi_5, (am_in 204 (by decide +kernel) rfl)⟩
theorem f_X7_42 : am_F RX7 42 5 7 true := ⟨RX7, TX7, 8, rfl, by decide, wi_5, (am_in 205 (by decide +kernel) rfl), rfl, tyX7_ok, nmX7, (fun _ => rfl)⟩
theorem g_X7_42 : am_G RX7 42 5 7 := f_X7_42.g
theorem g_X10_199 : am_G RX10 199 5 7 := ⟨RX7, TX7, 8, rfl, by decide, wi_5, (am_in 206 (by decide +kernel) rfl)⟩
theorem f_X9_11 : am_F RX9 11 7 0 true := ⟨RX9, TX9, 3, rfl, by decide, wi_7, (am_in 231 (by decide +kernel) rfl), rfl, tyX9_ok, nmX9, (fun _ => rfl)⟩
theorem g_X9_11 : am_G RX9 11 7 0 := f_X9_11.g
theorem g_X2_55 : am_G RX2 55 7 0 := ⟨RX9, TX9, 3, rfl, by decide, wi_7, (am_in 232 (by decide +kernel) rfl)⟩
theorem f_X9_17 : am_F RX9 17 7 1 true := ⟨RX9, TX9, 3, rfl, by decide, wi_7, (am_in 233 (by decide +kernel) rfl), rfl, tyX9_ok, nmX9, (fun _ => rfl)⟩
theorem g_X9_17 : am_G RX9 17 7 1 := f_X9_17.g
theorem g_X2_52 : am_G RX2 52 7 1 := ⟨RX9, TX9, 3, rfl, by decide, wi_7, (am_in 234 (by decide +kernel) rfl)⟩
theorem f_X9_20 : am_F RX9 20 7 2 true := ⟨RX9, TX9, 3, rfl, by decide, wi_7, (am_in 235 (by decide +kernel) rfl), rfl, tyX9_ok, nmX9, (fun _ => rfl)⟩
theorem g_X9_20 : am_G RX9 20 7 2 := f_X9_20.g
theorem f_X0_79 : am_F RX0 79 0 0 false := ⟨RX0, TX0, 15, rfl, by decide, wi_0, (am_in 249 (by decide +kernel) rfl), rfl, tyX0_ok, nmX0, (fun h => by cases h)⟩
theorem g_X0_79 : am_G RX0 79 0 0 := f_X0_79.g
theorem f_X0_15 : am_F RX0 15 0 1 true := ⟨RX0, TX0, 15, rfl, by decide, wi_0, (am_in 250 (by decide +kernel) rfl), rfl, tyX0_ok, nmX0, (fun _ => rfl)⟩
theorem g_X0_15 : am_G RX0 15 0 1 := f_X0_15.g
theorem f_X0_19 : am_F RX0 19 0 2 true := ⟨RX0, TX0, 15, rfl, by decide, wi_0, (am_in 251 (by decide +kernel) rfl), rfl, tyX0_ok, nmX0, (fun _ => rfl)⟩
theorem g_X0_19 : am_G RX0 19 0 2 := f_X0_19.g
theorem f_X0_22 : am_F RX0 22 0 3 true := ⟨RX0, TX0, 15, rfl, by decide, wi_0, (am_in 252 (by decide +kernel) rfl), rfl, tyX0_ok, nmX0, (fun _ => rfl)⟩
theorem g_X0_22 : am_G RX0 22 0 3 := f_X0_22.g
theorem f_X0_25 : am_F RX0 25 0 4 true := ⟨RX0, TX0, 15, rfl, by decide, wi_0, (am_in 253 (by decide +kernel) rfl), rfl, tyX0_ok, nmX0, (fun _ => rfl)⟩
theorem g_X0_25 : am_G RX0 25 0 4 := f_X0_25.g
theorem f_X0_82 : am_F RX0 82 0 5 false := ⟨RX0, TX0, 15, rfl, by decide, wi_0, (am_in 254 (by decide +kernel) rfl), rfl, tyX0_ok, nmX0, (fun h => by cases h)⟩
theorem g_X0_82 : am_G RX0 82 0 5 := f_X0_82.g
theorem f_X0_28 : am_F RX0 28 0 6 true := ⟨RX0, TX0, 15, rfl, by decide, wi_0, (am_in 255 (by decide +kernel) rfl), rfl, tyX0_ok, nmX0, (fun _ => rfl)⟩
theorem g_X0_28 : am_G RX0 28 0 6 := f_X0_28.g
theorem f_X0_31 : am_F RX0 31 0 7 true := ⟨RX0, TX0, 15, rfl, by decide, wi_0, (am_in 256 (by decide +kernel) rfl), rfl, tyX0_ok, nmX0, (fun _ => rfl)⟩
theorem g_X0_31 : am_G RX0 31 0 7 := f_X0_31.g
theorem f_X0_34 : am_F RX0 34 0 8 true := ⟨RX0, TX0, 15, rfl, by decide, wi_0, (am_in 257 (by decide +kernel) rfl), rfl, tyX0_ok, nmX0, (fun _ => rfl)⟩
theorem g_X0_34 : am_G RX0 34 0 8 := f_X0_34.g
theorem f_X0_37 : am_F RX0 37 0 9 true := ⟨RX0, TX0, 15, rfl, by decide, wi_0, (am_in 258 (by decide +kernel) rfl), rfl, tyX0_ok, nmX0, (fun _ => rfl)⟩
theorem g_X0_37 : am_G RX0 37 0 9 := f_X0_37.g
theorem f_X0_40 : am_F RX0 40 0 10 true := ⟨RX0, TX0, 15, rfl, by decide, wi_0, (am_in 259 (by decide +kernel) rfl), rfl, tyX0_ok, nmX0, (fun _ => rfl)⟩
theorem g_X0_40 : am_G RX0 40 0 10 := f_X0_40.g
theorem f_X0_43 : am_F RX0 43 0 11 true := ⟨RX0, TX0, 15, rfl, by decide, wi_0, (am_in 260 (by decide +kernel) rfl), rfl, tyX0_ok, nmX0, (fun _ => rfl)⟩
theorem g_X0_43 : am_G RX0 43 0 11 := f_X0_43.g
theorem f_X0_76 : am_F RX0 76 0 12 false := ⟨RX0, TX0, 15, rfl, by decide, wi_0, (am_in 261 (by decide +kernel) rfl), rfl, tyX0_ok, nmX0, (fun h => by cases h)⟩
theorem g_X0_76 : am_G RX0 76 0 12 := f_X0_76.g
theorem f_X0_66 : am_F RX0 66 0 13 false := ⟨RX0, TX0, 15, rfl, by decide, wi_0, (am_in 262 (by decide +kernel) rfl), rfl, tyX0_ok, nmX0, (fun h => by cases h)⟩
theorem g_X0_66 : am_G RX0 66 0 13 := f_X0_66.g
theorem f_X0_73 : am_F RX0 73 0 14 false := ⟨RX0, TX0, 15, rfl, by decide, wi_0, (am_in 263 (by decide +kernel) rfl), rfl, tyX0_ok, nmX0, (fun h => by cases h)⟩
theorem g_X0_73 : am_G RX0 73 0 14 := f_X0_73.g
theorem f_X10_10 : am_F RX10 10 8 0 true := ⟨RX10, TX10, 4, rfl, by decide, wi_8, (am_in 295 (by decide +kernel) rfl), rfl, tyX10_ok, nmX10, (fun _ => rfl)⟩
theorem g_X10_10 : am_G RX10 10 8 0 := f_X10_10.g
theorem f_X10_16 : am_F RX10 16 8 1 true := ⟨RX10, TX10, 4, rfl, by decide, wi_8, (am_in 296 (by decide +kernel) rfl), rfl, tyX10_ok, nmX10, (fun _ => rfl)⟩
theorem g_X10_16 : am_G RX10 16 8 1 := f_X10_16.g
theorem f_X10_23 : am_F RX10 23 8 2 true := ⟨RX10, TX10, 4, rfl, by decide, wi_8, (am_in 297 (by decide +kernel) rfl), rfl, tyX10_ok, nmX10, (fun _ => rfl)⟩
theorem g_X10_23 : am_G RX10 23 8 2 := f_X10_23.g
theorem f_X10_30 : am_F RX10 30 8 3 true := ⟨RX10, TX10, 4, rfl, by decide, wi_8, (am_in 298 (by decide +kernel) rfl), rfl, tyX10_ok, nmX10, (fun _ => rfl)⟩
theorem g_X10_30 : am_G RX10 30 8 3 := f_X10_30.g
theorem fs_X1_13 : Cond.fieldLink RX1 13 RX1 (am_sn 2) "[I" ∈ am_tb := (am_in 341 (by decide +kernel) rfl)
theorem fs_X1_9 : Cond.fieldLink RX1 9 RX1 (am_sn 3) "[I" ∈ am_tb := (am_in 343 (by decide +kernel) rfl)
theorem fs_X6_73 : Cond.fieldLink RX6 73 RX1 (am_sn 0) "[I" ∈ am_tb := (am_in 502 (by decide +kernel) rfl)
theorem fs_X6_78 : Cond.fieldLink RX6 78 RX1 (am_sn 1) "[I" ∈ am_tb := (am_in 504 (by decide +kernel) rfl)
theorem f_X11_134 : am_F RX11 134 9 0 false := ⟨RX11, TX11, 48, rfl, by decide, wi_9, (am_in 674 (by decide +kernel) rfl), rfl, tyX11_ok, nmX11, (fun h => by cases h)⟩
theorem g_X11_134 : am_G RX11 134 9 0 := f_X11_134.g
theorem f_X11_7 : am_F RX11 7 9 1 true := ⟨RX11, TX11, 48, rfl, by decide, wi_9, (am_in 675 (by decide +kernel) rfl), rfl, tyX11_ok, nmX11, (fun _ => rfl)⟩
theorem g_X11_7 : am_G RX11 7 9 1 := f_X11_7.g
theorem f_X11_13 : am_F RX11 13 9 2 true := ⟨RX11, TX11, 48, rfl, by decide, wi_9, (am_in 676 (by decide +kernel) rfl), rfl, tyX11_ok, nmX11, (fun _ => rfl)⟩
theorem g_X11_13 : am_G RX11 13 9 2 := f_X11_13.g
theorem f_X11_16 : am_F RX11 16 9 3 true := ⟨RX11, TX11, 48, rfl, by decide, wi_9, (am_in 677 (by decide +kernel) rfl), rfl, tyX11_ok, nmX11, (fun _ => rfl)⟩
theorem g_X11_16 : am_G RX11 16 9 3 := f_X11_16.g
theorem f_X11_19 : am_F RX11 19 9 4 true := ⟨RX11, TX11, 48, rfl, by decide, wi_9, (am_in 678 (by decide +kernel) rfl), rfl, tyX11_ok, nmX11, (fun _ => rfl)⟩
theorem g_X11_19 : am_G RX11 19 9 4 := f_X11_19.g
theorem f_X11_22 : am_F RX11 22 9 5 true := ⟨RX11, TX11, 48, rfl, by decide, wi_9, (am_in 679 (by decide +kernel) rfl), rfl, tyX11_ok, nmX11, (fun _ => rfl)⟩
theorem g_X11_22 : am_G RX11 22 9 5 := f_X11_22.g
theorem f_X11_25 : am_F RX11 25 9 6 true := ⟨RX11, TX11, 48, rfl, by decide, wi_9, (am_in 680 (by decide +kernel) rfl), rfl, tyX11_ok, nmX11, (fun _ => rfl)⟩
theorem g_X11_25 : am_G RX11 25 9 6 := f_X11_25.g
theorem f_X11_28 : am_F RX11 28 9 7 true := ⟨RX11, TX11, 48, rfl, by decide, wi_9, (am_in 681 (by decide +kernel) rfl), rfl, tyX11_ok, nmX11, (fun _ => rfl)⟩
theorem g_X11_28 : am_G RX11 28 9 7 := f_X11_28.g
theorem f_X11_31 : am_F RX11 31 9 8 true := ⟨RX11, TX11, 48, rfl, by decide, wi_9, (am_in 682 (by decide +kernel) rfl), rfl, tyX11_ok, nmX11, (fun _ => rfl)⟩
theorem g_X11_31 : am_G RX11 31 9 8 := f_X11_31.g
theorem f_X11_34 : am_F RX11 34 9 9 true := ⟨RX11, TX11, 48, rfl, by decide, wi_9, (am_in 683 (by decide +kernel) rfl), rfl, tyX11_ok, nmX11, (fun _ => rfl)⟩
theorem g_X11_34 : am_G RX11 34 9 9 := f_X11_34.g
theorem f_X11_37 : am_F RX11 37 9 10 true := ⟨RX11, TX11, 48, rfl, by decide, wi_9, (am_in 684 (by decide +kernel) rfl), rfl, tyX11_ok, nmX11, (fun _ => rfl)⟩
theorem g_X11_37 : am_G RX11 37 9 10 := f_X11_37.g
theorem f_X11_40 : am_F RX11 40 9 11 true := ⟨RX11, TX11, 48, rfl, by decide, wi_9, (am_in 685 (by decide +kernel) rfl), rfl, tyX11_ok, nmX11, (fun _ => rfl)⟩
theorem g_X11_40 : am_G RX11 40 9 11 := f_X11_40.g
theorem f_X11_43 : am_F RX11 43 9 12 true := ⟨RX11, TX11, 48, rfl, by decide, wi_9, (am_in 686 (by decide +kernel) rfl), rfl, tyX11_ok, nmX11, (fun _ => rfl)⟩
theorem g_X11_43 : am_G RX11 43 9 12 := f_X11_43.g
theorem f_X11_46 : am_F RX11 46 9 13 true := ⟨RX11, TX11, 48, rfl, by decide, wi_9, (am_in 687 (by decide +kernel) rfl), rfl, tyX11_ok, nmX11, (fun _ => rfl)⟩
theorem g_X11_46 : am_G RX11 46 9 13 := f_X11_46.g
theorem f_X11_49 : am_F RX11 49 9 14 true := ⟨RX11, TX11, 48, rfl, by decide, wi_9, (am_in 688 (by decide +kernel) rfl), rfl, tyX11_ok, nmX11, (fun _ => rfl)⟩
theorem g_X11_49 : am_G RX11 49 9 14 := f_X11_49.g
theorem f_X11_52 : am_F RX11 52 9 15 true := ⟨RX11, TX11, 48, rfl, by decide, wi_9, (am_in 689 (by decide +kernel) rfl), rfl, tyX11_ok, nmX11, (fun _ => rfl)⟩
theorem g_X11_52 : am_G RX11 52 9 15 := f_X11_52.g
theorem f_X11_55 : am_F RX11 55 9 16 true := ⟨RX11, TX11, 48, rfl, by decide, wi_9, (am_in 690 (by decide +kernel) rfl), rfl, tyX11_ok, nmX11, (fun _ => rfl)⟩
theorem g_X11_55 : am_G RX11 55 9 16 := f_X11_55.g
theorem f_X11_58 : am_F RX11 58 9 17 true := ⟨RX11, TX11, 48, rfl, by decide, wi_9, (am_in 691 (by decide +kernel) rfl), rfl, tyX11_ok, nmX11, (fun _ => rfl)⟩
theorem g_X11_58 : am_G RX11 58 9 17 := f_X11_58.g
theorem f_X11_61 : am_F RX11 61 9 18 true := ⟨RX11, TX11, 48, rfl, by decide, wi_9, (am_in 692 (by decide +kernel) rfl), rfl, tyX11_ok, nmX11, (fun _ => rfl)⟩
theorem g_X11_61 : am_G RX11 61 9 18 := f_X11_61.g
theorem f_X11_64 : am_F RX11 64 9 19 true := ⟨RX11, TX11, 48, rfl, by decide, wi_9, (am_in 693 (by decide +kernel) rfl), rfl, tyX11_ok, nmX11, (fun _ => rfl)⟩
theorem g_X11_64 : am_G RX11 64 9 19 := f_X11_64.g
theorem f_X11_67 : am_F RX11 67 9 20 true := ⟨RX11, TX11, 48, rfl, by decide, wi_9, (am_in 694 (by decide +kernel) rfl), rfl, tyX11_ok, nmX11, (fun _ => rfl)⟩
theorem g_X11_67 : am_G RX11 67 9 20 := f_X11_67.g
theorem f_X11_70 : am_F RX11 70 9 21 true := ⟨RX11, TX11, 48, rfl, by decide, wi_9, (am_in 695 (by decide +kernel) rfl), rfl, tyX11_ok, nmX11, (fun _ => rfl)⟩
theorem g_X11_70 : am_G RX11 70 9 21 := f_X11_70.g
theorem f_X11_73 : am_F RX11 73 9 22 true := ⟨RX11, TX11, 48, rfl, by decide, wi_9, (am_in 696 (by decide +kernel) rfl), rfl, tyX11_ok, nmX11, (fun _ => rfl)⟩
theorem g_X11_73 : am_G RX11 73 9 22 := f_X11_73.g
theorem f_X11_76 : am_F RX11 76 9 23 true := ⟨RX11, TX11, 48, rfl, by decide, wi_9, (am_in 697 (by decide +kernel) rfl), rfl, tyX11_ok, nmX11, (fun _ => rfl)⟩
theorem g_X11_76 : am_G RX11 76 9 23 := f_X11_76.g
theorem f_X11_79 : am_F RX11 79 9 24 true := ⟨RX11, TX11, 48, rfl, by decide, wi_9, (am_in 698 (by decide +kernel) rfl), rfl, tyX11_ok, nmX11, (fun _ => rfl)⟩
theorem g_X11_79 : am_G RX11 79 9 24 := f_X11_79.g
theorem f_X11_82 : am_F RX11 82 9 25 true := ⟨RX11, TX11, 48, rfl, by decide, wi_9, (am_in 699 (by decide +kernel) rfl), rfl, tyX11_ok, nmX11, (fun _ => rfl)⟩
theorem g_X11_82 : am_G RX11 82 9 25 := f_X11_82.g
theorem f_X11_85 : am_F RX11 85 9 26 true := ⟨RX11, TX11, 48, rfl, by decide, wi_9, (am_in 700 (by decide +kernel) rfl), rfl, tyX11_ok, nmX11, (fun _ => rfl)⟩
theorem g_X11_85 : am_G RX11 85 9 26 := f_X11_85.g
theorem f_X11_88 : am_F RX11 88 9 27 true := ⟨RX11, TX11, 48, rfl, by decide, wi_9, (am_in 701 (by decide +kernel) rfl), rfl, tyX11_ok, nmX11, (fun _ => rfl)⟩
theorem g_X11_88 : am_G RX11 88 9 27 := f_X11_88.g
theorem f_X11_170 : am_F RX11 170 9 28 false := ⟨RX11, TX11, 48, rfl, by decide, wi_9, (am_in 702 (by decide +kernel) rfl), rfl, tyX11_ok, nmX11, (fun h => by cases h)⟩
theorem g_X11_170 : am_G RX11 170 9 28 := f_X11_170.g
theorem f_X11_91 : am_F RX11 91 9 29 true := ⟨RX11, TX11, 48, rfl, by decide, wi_9, (am_in 703 (by decide +kernel) rfl), rfl, tyX11_ok, nmX11, (fun _ => rfl)⟩
theorem g_X11_91 : am_G RX11 91 9 29 := f_X11_91.g
theorem f_X11_94 : am_F RX11 94 9 30 true := ⟨RX11, TX11, 48, rfl, by decide, wi_9, (am_in 704 (by decide +kernel) rfl), rfl, tyX11_ok, nmX11, (fun _ => rfl)⟩
theorem g_X11_94 : am_G RX11 94 9 30 := f_X11_94.g
theorem f_X11_98 : am_F RX11 98 9 31 true := ⟨RX11, TX11, 48, rfl, by decide, wi_9, (am_in 705 (by decide +kernel) rfl), rfl, tyX11_ok, nmX11, (fun _ => rfl)⟩
theorem g_X11_98 : am_G RX11 98 9 31 := f_X11_98.g
theorem f_X11_101 : am_F RX11 101 9 32 true := ⟨RX11, TX11, 48, rfl, by decide, wi_9, (am_in 706 (by decide +kernel) rfl), rfl, tyX11_ok, nmX11, (fun _ => rfl)⟩
theorem g_X11_101 : am_G RX11 101 9 32 := f_X11_101.g
theorem f_X11_104 : am_F RX11 104 9 33 true := ⟨RX11, TX11, 48, rfl, by decide, wi_9, (am_in 707 (by decide +kernel) rfl), rfl, tyX11_ok, nmX11, (fun _ => rfl)⟩
theorem g_X11_104 : am_G RX11 104 9 33 := f_X11_104.g
theorem f_X11_107 : am_F RX11 107 9 34 true := ⟨RX11, TX11, 48, rfl, by decide, wi_9, (am_in 708 (by decide +kernel) rfl), rfl, tyX11_ok, nmX11, (fun _ => rfl)⟩
theorem g_X11_107 : am_G RX11 107 9 34 := f_X11_107.g
theorem f_X11_110 : am_F RX11 110 9 35 true := ⟨RX11, TX11, 48, rfl, by decide, wi_9, (am_in 709 (by decide +kernel) rfl), rfl, tyX11_ok, nmX11, (fun _ => rfl)⟩
theorem g_X11_110 : am_G RX11 110 9 35 := f_X11_110.g
theorem f_X11_113 : am_F RX11 113 9 36 true := ⟨RX11, TX11, 48, rfl, by decide, wi_9, (am_in 710 (by decide +kernel) rfl), rfl, tyX11_ok, nmX11, (fun _ => rfl)⟩
theorem g_X11_113 : am_G RX11 113 9 36 := f_X11_113.g
theorem f_X11_116 : am_F RX11 116 9 37 true := ⟨RX11, TX11, 48, rfl, by decide, wi_9, (am_in 711 (by decide +kernel) rfl), rfl, tyX11_ok, nmX11, (fun _ => rfl)⟩
theorem g_X11_116 : am_G RX11 116 9 37 := f_X11_116.g
theorem f_X11_211 : am_F RX11 211 9 38 false := ⟨RX11, TX11, 48, rfl, by decide, wi_9, (am_in 712 (by decide +kernel) rfl), rfl, tyX11_ok, nmX11, (fun h => by cases h)⟩
theorem g_X11_211 : am_G RX11 211 9 38 := f_X11_211.g
theorem f_X11_220 : am_F RX11 220 9 39 false := ⟨RX11, TX11, 48, rfl, by decide, wi_9, (am_in 713 (by decide +kernel) rfl), rfl, tyX11_ok, nmX11, (fun h => by cases h)⟩
theorem g_X11_220 : am_G RX11 220 9 39 := f_X11_220.g
theorem f_X11_223 : am_F RX11 223 9 40 false := ⟨RX11, TX11, 48, rfl, by decide, wi_9, (am_in 714 (by decide +kernel) rfl), rfl, tyX11_ok, nmX11, (fun h => by cases h)⟩
theorem g_X11_223 : am_G RX11 223 9 40 := f_X11_223.g
theorem f_X11_119 : am_F RX11 119 9 41 true := ⟨RX11, TX11, 48, rfl, by decide, wi_9, (am_in 715 (by decide +kernel) rfl), rfl, tyX11_ok, nmX11, (fun _ => rfl)⟩
theorem g_X11_119 : am_G RX11 119 9 41 := f_X11_119.g
theorem f_X11_122 : am_F RX11 122 9 42 true := ⟨RX11, TX11, 48, rfl, by decide, wi_9, (am_in 716 (by decide +kernel) rfl), rfl, tyX11_ok, nmX11, (fun _ => rfl)⟩
theorem g_X11_122 : am_G RX11 122 9 42 := f_X11_122.g
theorem f_X11_125 : am_F RX11 125 9 43 true := ⟨RX11, TX11, 48, rfl, by decide, wi_9, (am_in 717 (by decide +kernel) rfl), rfl, tyX11_ok, nmX11, (fun _ => rfl)⟩
theorem g_X11_125 : am_G RX11 125 9 43 := f_X11_125.g
theorem f_X11_128 : am_F RX11 128 9 44 true := ⟨RX11, TX11, 48, rfl, by decide, wi_9, (am_in 718 (by decide +kernel) rfl), rfl, tyX11_ok, nmX11, (fun _ => rfl)⟩
theorem g_X11_128 : am_G RX11 128 9 44 := f_X11_128.g
theorem f_X11_232 : am_F RX11 232 9 45 false := ⟨RX11, TX11, 48, rfl, by decide, wi_9, (am_in 719 (by decide +kernel) rfl), rfl, tyX11_ok, nmX11, (fun h => by cases h)⟩
theorem g_X11_232 : am_G RX11 232 9 45 := f_X11_232.g
theorem f_X11_235 : am_F RX11 235 9 46 false := ⟨RX11, TX11, 48, rfl, by decide, wi_9, (am_in 720 (by decide +kernel) rfl), rfl, tyX11_ok, nmX11, (fun h => by cases h)⟩
theorem g_X11_235 : am_G RX11 235 9 46 := f_X11_235.g
theorem f_X11_131 : am_F RX11 131 9 47 true := ⟨RX11, TX11, 48, rfl, by decide, wi_9, (am_in 721 (by decide +kernel) rfl), rfl, tyX11_ok, nmX11, (fun _ => rfl)⟩
theorem g_X11_131 : am_G RX11 131 9 47 := f_X11_131.g
abbrev mX10_init : MI := (yX10_init, cX10_init, 1, none)
theorem mm_X10_init : am_M mX10_init 0 := ⟨(am_in 20 (by decide +kernel) rfl), (am_in 1 (by decide +kernel) rfl), by decide +kernel, by decide +kernel, by decide +kernel⟩
theorem mi_X10_init : Cond.instanceMethod yX10_init ∈ am_tb := (am_in 19 (by decide +kernel) rfl)
abbrev mX7_init : MI := (yX7_init, cX7_init, 2, none)
theorem mm_X7_init : am_M mX7_init 0 := ⟨(am_in 28 (by decide +kernel) rfl), (am_in 2 (by decide +kernel) rfl), by decide +kernel, by decide +kernel, by decide +kernel⟩
theorem mi_X7_init : Cond.instanceMethod yX7_init ∈ am_tb := (am_in 27 (by decide +kernel) rfl)
abbrev mX5_init : MI := (yX5_init, cX5_init, 1, none)
theorem mm_X5_init : am_M mX5_init 0 := ⟨(am_in 36 (by decide +kernel) rfl), (am_in 3 (by decide +kernel) rfl), by decide +kernel, by decide +kernel, by decide +kernel⟩
theorem mi_X5_init : Cond.instanceMethod yX5_init ∈ am_tb := (am_in 35 (by decide +kernel) rfl)
abbrev mX2_init : MI := (yX2_init, cX2_init, 1, none)
theorem mm_X2_init : am_M mX2_init 0 := ⟨(am_in 53 (by decide +kernel) rfl), (am_in 4 (by decide +kernel) rfl), by decide +kernel, by decide +kernel, by decide +kernel⟩
theorem mi_X2_init : Cond.instanceMethod yX2_init ∈ am_tb := (am_in 52 (by decide +kernel) rfl)
abbrev mX3_init : MI := (yX3_init, cX3_init, 1, none)
theorem mm_X3_init : am_M mX3_init 0 := ⟨(am_in 59 (by decide +kernel) rfl), (am_in 5 (by decide +kernel) rfl), by decide +kernel, by decide +kernel, by decide +kernel⟩
theorem mi_X3_init : Cond.instanceMethod yX3_init ∈ am_tb := (am_in 58 (by decide +kernel) rfl)
abbrev mX6_init : MI := (yX6_init, cX6_init, 1, none)
theorem mm_X6_init : am_M mX6_init 0 := ⟨(am_in 131 (by decide +kernel) rfl), (am_in 6 (by decide +kernel) rfl), by decide +kernel, by decide +kernel, by decide +kernel⟩
theorem mi_X6_init : Cond.instanceMethod yX6_init ∈ am_tb := (am_in 130 (by decide +kernel) rfl)
abbrev mX8_init : MI := (yX8_init, cX8_init, 1, none)
theorem mm_X8_init : am_M mX8_init 0 := ⟨(am_in 174 (by decide +kernel) rfl), (am_in 7 (by decide +kernel) rfl), by decide +kernel, by decide +kernel, by decide +kernel⟩
theorem mi_X8_init : Cond.instanceMethod yX8_init ∈ am_tb := (am_in 173 (by decide +kernel) rfl)
abbrev mX9_init : MI := (yX9_init, cX9_init, 1, none)
theorem mm_X9_init : am_M mX9_init 0 := ⟨(am_in 229 (by decide +kernel) rfl), (am_in 8 (by decide +kernel) rfl), by decide +kernel, by decide +kernel, by decide +kernel⟩
theorem mi_X9_init : Cond.instanceMethod yX9_init ∈ am_tb := (am_in 228 (by decide +kernel) rfl)
abbrev mX0_init : MI := (yX0_init, cX0_init, 1, none)
theorem mm_X0_init : am_M mX0_init 0 := ⟨(am_in 247 (by decide +kernel) rfl), (am_in 9 (by decide +kernel) rfl), by decide +kernel, by decide +kernel, by decide +kernel⟩
theorem mi_X0_init : Cond.instanceMethod yX0_init ∈ am_tb := (am_in 246 (by decide +kernel) rfl)
abbrev mX10_program : MI := (yX10_program, cX10_program, 1, (some .int))
theorem mm_X10_program : am_M mX10_program 0 := ⟨(am_in 311 (by decide +kernel) rfl), (am_in 1 (by decide +kernel) rfl), by decide +kernel, by decide +kernel, by decide +kernel⟩
theorem mv_X10_program : Cond.instanceMethod yX10_program ∈ am_tb ∧ Cond.selects yX10_program.cls yX10_program yX10_program ∈ am_tb := ⟨(am_in 309 (by decide +kernel) rfl), (am_in 310 (by decide +kernel) rfl)⟩
theorem mc_X10_program : ∃ T N, am_cl[8]? = some (yX10_program.cls, T, N) := ⟨_, _, rfl⟩
abbrev mX3_clear : MI := (yX3_clear, cX3_clear, 1, none)
theorem mm_X3_clear : am_M mX3_clear 0 := ⟨(am_in 315 (by decide +kernel) rfl), (am_in 5 (by decide +kernel) rfl), by decide +kernel, by decide +kernel, by decide +kernel⟩
theorem mv_X3_clear : Cond.instanceMethod yX3_clear ∈ am_tb ∧ Cond.selects yX3_clear.cls yX3_clear yX3_clear ∈ am_tb := ⟨(am_in 313 (by decide +kernel) rfl), (am_in 314 (by decide +kernel) rfl)⟩
theorem mc_X3_clear : ∃ T N, am_cl[2]? = some (yX3_clear.cls, T, N) := ⟨_, _, rfl⟩
abbrev mJ7_fill_53178 : MI := (yJ7_fill_53178, cJ7_fill_53178, 4, none)
theorem mm_J7_fill_53178 : am_M mJ7_fill_53178 2 := ⟨(am_in 318 (by decide +kernel) rfl), (am_in 11 (by decide +kernel) rfl), by decide +kernel, by decide +kernel, by decide +kernel⟩
theorem ms_J7_fill_53178 : Cond.static yJ7_fill_53178 ∈ am_tb := (am_in 317 (by decide +kernel) rfl)
abbrev mX3_forgetRun : MI := (yX3_forgetRun, cX3_forgetRun, 1, none)
theorem mm_X3_forgetRun : am_M mX3_forgetRun 0 := ⟨(am_in 322 (by decide +kernel) rfl), (am_in 5 (by decide +kernel) rfl), by decide +kernel, by decide +kernel, by decide +kernel⟩
theorem mv_X3_forgetRun : Cond.instanceMethod yX3_forgetRun ∈ am_tb ∧ Cond.selects yX3_forgetRun.cls yX3_forgetRun yX3_forgetRun ∈ am_tb := ⟨(am_in 320 (by decide +kernel) rfl), (am_in 321 (by decide +kernel) rfl)⟩
theorem mc_X3_forgetRun : ∃ T N, am_cl[2]? = some (yX3_forgetRun.cls, T, N) := ⟨_, _, rfl⟩
abbrev mX10_order : MI := (yX10_order, cX10_order, 5, (some .int))
theorem mm_X10_order : am_M mX10_order 3 := ⟨(am_in 326 (by decide +kernel) rfl), (am_in 1 (by decide +kernel) rfl), by decide +kernel, by decide +kernel, by decide +kernel⟩
theorem mv_X10_order : Cond.instanceMethod yX10_order ∈ am_tb ∧ Cond.selects yX10_order.cls yX10_order yX10_order ∈ am_tb := ⟨(am_in 324 (by decide +kernel) rfl), (am_in 325 (by decide +kernel) rfl)⟩
theorem mc_X10_order : ∃ T N, am_cl[8]? = some (yX10_order.cls, T, N) := ⟨_, _, rfl⟩
abbrev mX7_hasProgram : MI := (yX7_hasProgram, cX7_hasProgram, 2, (some .boolean))
theorem mm_X7_hasProgram : am_M mX7_hasProgram 1 := ⟨(am_in 330 (by decide +kernel) rfl), (am_in 2 (by decide +kernel) rfl), by decide +kernel, by decide +kernel, by decide +kernel⟩
theorem mv_X7_hasProgram : Cond.instanceMethod yX7_hasProgram ∈ am_tb ∧ Cond.selects yX7_hasProgram.cls yX7_hasProgram yX7_hasProgram ∈ am_tb := ⟨(am_in 328 (by decide +kernel) rfl), (am_in 329 (by decide +kernel) rfl)⟩
theorem mc_X7_hasProgram : ∃ T N, am_cl[5]? = some (yX7_hasProgram.cls, T, N) := ⟨_, _, rfl⟩
abbrev mX3_append : MI := (yX3_append, cX3_append, 3, (some .boolean))
theorem mm_X3_append : am_M mX3_append 2 := ⟨(am_in 334 (by decide +kernel) rfl), (am_in 5 (by decide +kernel) rfl), by decide +kernel, by decide +kernel, by decide +kernel⟩
theorem mv_X3_append : Cond.instanceMethod yX3_append ∈ am_tb ∧ Cond.selects yX3_append.cls yX3_append yX3_append ∈ am_tb := ⟨(am_in 332 (by decide +kernel) rfl), (am_in 333 (by decide +kernel) rfl)⟩
theorem mc_X3_append : ∃ T N, am_cl[2]? = some (yX3_append.cls, T, N) := ⟨_, _, rfl⟩
abbrev mX1_isOne : MI := (yX1_isOne, cX1_isOne, 1, (some .boolean))
theorem mm_X1_isOne : am_M mX1_isOne 1 := ⟨(am_in 337 (by decide +kernel) rfl), (am_in 12 (by decide +kernel) rfl), by decide +kernel, by decide +kernel, by decide +kernel⟩
theorem ms_X1_isOne : Cond.static yX1_isOne ∈ am_tb := (am_in 336 (by decide +kernel) rfl)
abbrev mX1_fits : MI := (yX1_fits, cX1_fits, 2, (some .boolean))
theorem mm_X1_fits : am_M mX1_fits 2 := ⟨(am_in 340 (by decide +kernel) rfl), (am_in 12 (by decide +kernel) rfl), by decide +kernel, by decide +kernel, by decide +kernel⟩
theorem ms_X1_fits : Cond.static yX1_fits ∈ am_tb := (am_in 339 (by decide +kernel) rfl)
abbrev mX1_leads : MI := (yX1_leads, cX1_leads, 1, (some .boolean))
theorem mm_X1_leads : am_M mX1_leads 1 := ⟨(am_in 347 (by decide +kernel) rfl), (am_in 12 (by decide +kernel) rfl), by decide +kernel, by decide +kernel, by decide +kernel⟩
theorem ms_X1_leads : Cond.static yX1_leads ∈ am_tb := (am_in 346 (by decide +kernel) rfl)
abbrev mX10_change : MI := (yX10_change, cX10_change, 5, (some .boolean))
theorem mm_X10_change : am_M mX10_change 3 := ⟨(am_in 352 (by decide +kernel) rfl), (am_in 1 (by decide +kernel) rfl), by decide +kernel, by decide +kernel, by decide +kernel⟩
theorem mv_X10_change : Cond.instanceMethod yX10_change ∈ am_tb ∧ Cond.selects yX10_change.cls yX10_change yX10_change ∈ am_tb := ⟨(am_in 350 (by decide +kernel) rfl), (am_in 351 (by decide +kernel) rfl)⟩
theorem mc_X10_change : ∃ T N, am_cl[8]? = some (yX10_change.cls, T, N) := ⟨_, _, rfl⟩
abbrev mX7_hasOrder : MI := (yX7_hasOrder, cX7_hasOrder, 3, (some .boolean))
theorem mm_X7_hasOrder : am_M mX7_hasOrder 2 := ⟨(am_in 356 (by decide +kernel) rfl), (am_in 2 (by decide +kernel) rfl), by decide +kernel, by decide +kernel, by decide +kernel⟩
theorem mv_X7_hasOrder : Cond.instanceMethod yX7_hasOrder ∈ am_tb ∧ Cond.selects yX7_hasOrder.cls yX7_hasOrder yX7_hasOrder ∈ am_tb := ⟨(am_in 354 (by decide +kernel) rfl), (am_in 355 (by decide +kernel) rfl)⟩
theorem mc_X7_hasOrder : ∃ T N, am_cl[5]? = some (yX7_hasOrder.cls, T, N) := ⟨_, _, rfl⟩
abbrev mX3_has : MI := (yX3_has, cX3_has, 2, (some .boolean))
theorem mm_X3_has : am_M mX3_has 1 := ⟨(am_in 361 (by decide +kernel) rfl), (am_in 5 (by decide +kernel) rfl), by decide +kernel, by decide +kernel, by decide +kernel⟩
theorem mv_X3_has : Cond.instanceMethod yX3_has ∈ am_tb ∧ Cond.selects yX3_has.cls yX3_has yX3_has ∈ am_tb := ⟨(am_in 359 (by decide +kernel) rfl), (am_in 360 (by decide +kernel) rfl)⟩
theorem mc_X3_has : ∃ T N, am_cl[2]? = some (yX3_has.cls, T, N) := ⟨_, _, rfl⟩
abbrev mX3_replace : MI := (yX3_replace, cX3_replace, 4, (some .boolean))
theorem mm_X3_replace : am_M mX3_replace 2 := ⟨(am_in 365 (by decide +kernel) rfl), (am_in 5 (by decide +kernel) rfl), by decide +kernel, by decide +kernel, by decide +kernel⟩
theorem mv_X3_replace : Cond.instanceMethod yX3_replace ∈ am_tb ∧ Cond.selects yX3_replace.cls yX3_replace yX3_replace ∈ am_tb := ⟨(am_in 363 (by decide +kernel) rfl), (am_in 364 (by decide +kernel) rfl)⟩
theorem mc_X3_replace : ∃ T N, am_cl[2]? = some (yX3_replace.cls, T, N) := ⟨_, _, rfl⟩
abbrev mX1_hasArgument : MI := (yX1_hasArgument, cX1_hasArgument, 1, (some .boolean))
theorem mm_X1_hasArgument : am_M mX1_hasArgument 1 := ⟨(am_in 368 (by decide +kernel) rfl), (am_in 12 (by decide +kernel) rfl), by decide +kernel, by decide +kernel, by decide +kernel⟩
theorem ms_X1_hasArgument : Cond.static yX1_hasArgument ∈ am_tb := (am_in 367 (by decide +kernel) rfl)
abbrev mX10_tell : MI := (yX10_tell, cX10_tell, 5, (some .int))
theorem mm_X10_tell : am_M mX10_tell 3 := ⟨(am_in 372 (by decide +kernel) rfl), (am_in 1 (by decide +kernel) rfl), by decide +kernel, by decide +kernel, by decide +kernel⟩
theorem mv_X10_tell : Cond.instanceMethod yX10_tell ∈ am_tb ∧ Cond.selects yX10_tell.cls yX10_tell yX10_tell ∈ am_tb := ⟨(am_in 370 (by decide +kernel) rfl), (am_in 371 (by decide +kernel) rfl)⟩
theorem mc_X10_tell : ∃ T N, am_cl[8]? = some (yX10_tell.cls, T, N) := ⟨_, _, rfl⟩
abbrev mX3_isLedTo : MI := (yX3_isLedTo, cX3_isLedTo, 2, (some .boolean))
theorem mm_X3_isLedTo : am_M mX3_isLedTo 1 := ⟨(am_in 376 (by decide +kernel) rfl), (am_in 5 (by decide +kernel) rfl), by decide +kernel, by decide +kernel, by decide +kernel⟩
theorem mv_X3_isLedTo : Cond.instanceMethod yX3_isLedTo ∈ am_tb ∧ Cond.selects yX3_isLedTo.cls yX3_isLedTo yX3_isLedTo ∈ am_tb := ⟨(am_in 374 (by decide +kernel) rfl), (am_in 375 (by decide +kernel) rfl)⟩
theorem mc_X3_isLedTo : ∃ T N, am_cl[2]? = some (yX3_isLedTo.cls, T, N) := ⟨_, _, rfl⟩
abbrev mX10_join : MI := (yX10_join, cX10_join, 7, (some .int))
theorem mm_X10_join : am_M mX10_join 5 := ⟨(am_in 380 (by decide +kernel) rfl), (am_in 1 (by decide +kernel) rfl), by decide +kernel, by decide +kernel, by decide +kernel⟩
theorem mv_X10_join : Cond.instanceMethod yX10_join ∈ am_tb ∧ Cond.selects yX10_join.cls yX10_join yX10_join ∈ am_tb := ⟨(am_in 378 (by decide +kernel) rfl), (am_in 379 (by decide +kernel) rfl)⟩
theorem mc_X10_join : ∃ T N, am_cl[8]? = some (yX10_join.cls, T, N) := ⟨_, _, rfl⟩
abbrev mX4_of : MI := (yX4_of, cX4_of, 8, (some .int))
theorem mm_X4_of : am_M mX4_of 5 := ⟨(am_in 383 (by decide +kernel) rfl), (am_in 13 (by decide +kernel) rfl), by decide +kernel, by decide +kernel, by decide +kernel⟩
theorem ms_X4_of : Cond.static yX4_of ∈ am_tb := (am_in 382 (by decide +kernel) rfl)
abbrev mX1_isLastAlone : MI := (yX1_isLastAlone, cX1_isLastAlone, 1, (some .boolean))
theorem mm_X1_isLastAlone : am_M mX1_isLastAlone 1 := ⟨(am_in 387 (by decide +kernel) rfl), (am_in 12 (by decide +kernel) rfl), by decide +kernel, by decide +kernel, by decide +kernel⟩
theorem ms_X1_isLastAlone : Cond.static yX1_isLastAlone ∈ am_tb := (am_in 386 (by decide +kernel) rfl)
abbrev mX4_with : MI := (yX4_with, cX4_with, 3, (some .int))
theorem mm_X4_with : am_M mX4_with 3 := ⟨(am_in 391 (by decide +kernel) rfl), (am_in 13 (by decide +kernel) rfl), by decide +kernel, by decide +kernel, by decide +kernel⟩
theorem ms_X4_with : Cond.static yX4_with ∈ am_tb := (am_in 390 (by decide +kernel) rfl)
abbrev mX5_indexOf : MI := (yX5_indexOf, cX5_indexOf, 3, (some .int))
theorem mm_X5_indexOf : am_M mX5_indexOf 1 := ⟨(am_in 395 (by decide +kernel) rfl), (am_in 3 (by decide +kernel) rfl), by decide +kernel, by decide +kernel, by decide +kernel⟩
theorem mv_X5_indexOf : Cond.instanceMethod yX5_indexOf ∈ am_tb ∧ Cond.selects yX5_indexOf.cls yX5_indexOf yX5_indexOf ∈ am_tb := ⟨(am_in 393 (by decide +kernel) rfl), (am_in 394 (by decide +kernel) rfl)⟩
theorem mc_X5_indexOf : ∃ T N, am_cl[3]? = some (yX5_indexOf.cls, T, N) := ⟨_, _, rfl⟩
abbrev mX5_append : MI := (yX5_append, cX5_append, 2, (some .boolean))
theorem mm_X5_append : am_M mX5_append 1 := ⟨(am_in 399 (by decide +kernel) rfl), (am_in 3 (by decide +kernel) rfl), by decide +kernel, by decide +kernel, by decide +kernel⟩
theorem mv_X5_append : Cond.instanceMethod yX5_append ∈ am_tb ∧ Cond.selects yX5_append.cls yX5_append yX5_append ∈ am_tb := ⟨(am_in 397 (by decide +kernel) rfl), (am_in 398 (by decide +kernel) rfl)⟩
theorem mc_X5_append : ∃ T N, am_cl[3]? = some (yX5_append.cls, T, N) := ⟨_, _, rfl⟩
abbrev mX10_part : MI := (yX10_part, cX10_part, 1, none)
theorem mm_X10_part : am_M mX10_part 0 := ⟨(am_in 403 (by decide +kernel) rfl), (am_in 1 (by decide +kernel) rfl), by decide +kernel, by decide +kernel, by decide +kernel⟩
theorem mv_X10_part : Cond.instanceMethod yX10_part ∈ am_tb ∧ Cond.selects yX10_part.cls yX10_part yX10_part ∈ am_tb := ⟨(am_in 401 (by decide +kernel) rfl), (am_in 402 (by decide +kernel) rfl)⟩
theorem mc_X10_part : ∃ T N, am_cl[8]? = some (yX10_part.cls, T, N) := ⟨_, _, rfl⟩
abbrev mX10_joined : MI := (yX10_joined, cX10_joined, 3, (some .int))
theorem mm_X10_joined : am_M mX10_joined 2 := ⟨(am_in 407 (by decide +kernel) rfl), (am_in 1 (by decide +kernel) rfl), by decide +kernel, by decide +kernel, by decide +kernel⟩
theorem mv_X10_joined : Cond.instanceMethod yX10_joined ∈ am_tb ∧ Cond.selects yX10_joined.cls yX10_joined yX10_joined ∈ am_tb := ⟨(am_in 405 (by decide +kernel) rfl), (am_in 406 (by decide +kernel) rfl)⟩
theorem mc_X10_joined : ∃ T N, am_cl[8]? = some (yX10_joined.cls, T, N) := ⟨_, _, rfl⟩
abbrev mX5_kind : MI := (yX5_kind, cX5_kind, 3, (some .int))
theorem mm_X5_kind : am_M mX5_kind 2 := ⟨(am_in 411 (by decide +kernel) rfl), (am_in 3 (by decide +kernel) rfl), by decide +kernel, by decide +kernel, by decide +kernel⟩
theorem mv_X5_kind : Cond.instanceMethod yX5_kind ∈ am_tb ∧ Cond.selects yX5_kind.cls yX5_kind yX5_kind ∈ am_tb := ⟨(am_in 409 (by decide +kernel) rfl), (am_in 410 (by decide +kernel) rfl)⟩
theorem mc_X5_kind : ∃ T N, am_cl[3]? = some (yX5_kind.cls, T, N) := ⟨_, _, rfl⟩
abbrev mX4_kind : MI := (yX4_kind, cX4_kind, 2, (some .int))
theorem mm_X4_kind : am_M mX4_kind 2 := ⟨(am_in 414 (by decide +kernel) rfl), (am_in 13 (by decide +kernel) rfl), by decide +kernel, by decide +kernel, by decide +kernel⟩
theorem ms_X4_kind : Cond.static yX4_kind ∈ am_tb := (am_in 413 (by decide +kernel) rfl)
abbrev mX10_pack : MI := (yX10_pack, cX10_pack, 3, (some .int))
theorem mm_X10_pack : am_M mX10_pack 1 := ⟨(am_in 418 (by decide +kernel) rfl), (am_in 1 (by decide +kernel) rfl), by decide +kernel, by decide +kernel, by decide +kernel⟩
theorem mv_X10_pack : Cond.instanceMethod yX10_pack ∈ am_tb ∧ Cond.selects yX10_pack.cls yX10_pack yX10_pack ∈ am_tb := ⟨(am_in 416 (by decide +kernel) rfl), (am_in 417 (by decide +kernel) rfl)⟩
theorem mc_X10_pack : ∃ T N, am_cl[8]? = some (yX10_pack.cls, T, N) := ⟨_, _, rfl⟩
abbrev mX9_measure : MI := (yX9_measure, cX9_measure, 5, (some .int))
theorem mm_X9_measure : am_M mX9_measure 3 := ⟨(am_in 422 (by decide +kernel) rfl), (am_in 8 (by decide +kernel) rfl), by decide +kernel, by decide +kernel, by decide +kernel⟩
theorem mv_X9_measure : Cond.instanceMethod yX9_measure ∈ am_tb ∧ Cond.selects yX9_measure.cls yX9_measure yX9_measure ∈ am_tb := ⟨(am_in 420 (by decide +kernel) rfl), (am_in 421 (by decide +kernel) rfl)⟩
theorem mc_X9_measure : ∃ T N, am_cl[7]? = some (yX9_measure.cls, T, N) := ⟨_, _, rfl⟩
abbrev mX9_begin : MI := (yX9_begin, cX9_begin, 8, none)
theorem mm_X9_begin : am_M mX9_begin 3 := ⟨(am_in 426 (by decide +kernel) rfl), (am_in 8 (by decide +kernel) rfl), by decide +kernel, by decide +kernel, by decide +kernel⟩
theorem mv_X9_begin : Cond.instanceMethod yX9_begin ∈ am_tb ∧ Cond.selects yX9_begin.cls yX9_begin yX9_begin ∈ am_tb := ⟨(am_in 425 (by decide +kernel) rfl), (am_inP 0 (by decide +kernel) rfl)⟩
theorem mc_X9_begin : ∃ T N, am_cl[7]? = some (yX9_begin.cls, T, N) := ⟨_, _, rfl⟩
abbrev mX3_reach : MI := (yX3_reach, cX3_reach, 3, (some .int))
theorem mm_X3_reach : am_M mX3_reach 1 := ⟨(am_in 430 (by decide +kernel) rfl), (am_in 5 (by decide +kernel) rfl), by decide +kernel, by decide +kernel, by decide +kernel⟩
theorem mv_X3_reach : Cond.instanceMethod yX3_reach ∈ am_tb ∧ Cond.selects yX3_reach.cls yX3_reach yX3_reach ∈ am_tb := ⟨(am_in 428 (by decide +kernel) rfl), (am_in 429 (by decide +kernel) rfl)⟩
theorem mc_X3_reach : ∃ T N, am_cl[2]? = some (yX3_reach.cls, T, N) := ⟨_, _, rfl⟩
abbrev mX3_weight : MI := (yX3_weight, cX3_weight, 3, (some .int))
theorem mm_X3_weight : am_M mX3_weight 2 := ⟨(am_in 438 (by decide +kernel) rfl), (am_in 5 (by decide +kernel) rfl), by decide +kernel, by decide +kernel, by decide +kernel⟩
theorem mv_X3_weight : Cond.instanceMethod yX3_weight ∈ am_tb ∧ Cond.selects yX3_weight.cls yX3_weight yX3_weight ∈ am_tb := ⟨(am_in 436 (by decide +kernel) rfl), (am_in 437 (by decide +kernel) rfl)⟩
theorem mc_X3_weight : ∃ T N, am_cl[2]? = some (yX3_weight.cls, T, N) := ⟨_, _, rfl⟩
abbrev mX2_make : MI := (yX2_make, cX2_make, 5, none)
theorem mm_X2_make : am_M mX2_make 2 := ⟨(am_in 442 (by decide +kernel) rfl), (am_in 4 (by decide +kernel) rfl), by decide +kernel, by decide +kernel, by decide +kernel⟩
theorem mv_X2_make : Cond.instanceMethod yX2_make ∈ am_tb ∧ Cond.selects yX2_make.cls yX2_make yX2_make ∈ am_tb := ⟨(am_in 440 (by decide +kernel) rfl), (am_in 441 (by decide +kernel) rfl)⟩
theorem mc_X2_make : ∃ T N, am_cl[1]? = some (yX2_make.cls, T, N) := ⟨_, _, rfl⟩
abbrev mX3_copyFrom : MI := (yX3_copyFrom, cX3_copyFrom, 2, none)
theorem mm_X3_copyFrom : am_M mX3_copyFrom 1 := ⟨(am_in 446 (by decide +kernel) rfl), (am_in 5 (by decide +kernel) rfl), by decide +kernel, by decide +kernel, by decide +kernel⟩
theorem mv_X3_copyFrom : Cond.instanceMethod yX3_copyFrom ∈ am_tb ∧ Cond.selects yX3_copyFrom.cls yX3_copyFrom yX3_copyFrom ∈ am_tb := ⟨(am_in 444 (by decide +kernel) rfl), (am_in 445 (by decide +kernel) rfl)⟩
theorem mc_X3_copyFrom : ∃ T N, am_cl[2]? = some (yX3_copyFrom.cls, T, N) := ⟨_, _, rfl⟩
abbrev mX2_beginCode : MI := (yX2_beginCode, cX2_beginCode, 4, none)
theorem mm_X2_beginCode : am_M mX2_beginCode 3 := ⟨(am_in 453 (by decide +kernel) rfl), (am_in 4 (by decide +kernel) rfl), by decide +kernel, by decide +kernel, by decide +kernel⟩
theorem mv_X2_beginCode : Cond.instanceMethod yX2_beginCode ∈ am_tb ∧ Cond.selects yX2_beginCode.cls yX2_beginCode yX2_beginCode ∈ am_tb := ⟨(am_in 452 (by decide +kernel) rfl), (am_inP 1 (by decide +kernel) rfl)⟩
theorem mc_X2_beginCode : ∃ T N, am_cl[1]? = some (yX2_beginCode.cls, T, N) := ⟨_, _, rfl⟩
abbrev mX2_write : MI := (yX2_write, cX2_write, 2, none)
theorem mm_X2_write : am_M mX2_write 1 := ⟨(am_in 457 (by decide +kernel) rfl), (am_in 4 (by decide +kernel) rfl), by decide +kernel, by decide +kernel, by decide +kernel⟩
theorem mv_X2_write : Cond.instanceMethod yX2_write ∈ am_tb ∧ Cond.selects yX2_write.cls yX2_write yX2_write ∈ am_tb := ⟨(am_in 456 (by decide +kernel) rfl), (am_inP 2 (by decide +kernel) rfl)⟩
theorem mc_X2_write : ∃ T N, am_cl[1]? = some (yX2_write.cls, T, N) := ⟨_, _, rfl⟩
abbrev mX10_code : MI := (yX10_code, cX10_code, 3, (some .int))
theorem mm_X10_code : am_M mX10_code 2 := ⟨(am_in 462 (by decide +kernel) rfl), (am_in 1 (by decide +kernel) rfl), by decide +kernel, by decide +kernel, by decide +kernel⟩
theorem mv_X10_code : Cond.instanceMethod yX10_code ∈ am_tb ∧ Cond.selects yX10_code.cls yX10_code yX10_code ∈ am_tb := ⟨(am_in 460 (by decide +kernel) rfl), (am_in 461 (by decide +kernel) rfl)⟩
theorem mc_X10_code : ∃ T N, am_cl[8]? = some (yX10_code.cls, T, N) := ⟨_, _, rfl⟩
abbrev mX2_hasCode : MI := (yX2_hasCode, cX2_hasCode, 2, (some .boolean))
theorem mm_X2_hasCode : am_M mX2_hasCode 1 := ⟨(am_in 466 (by decide +kernel) rfl), (am_in 4 (by decide +kernel) rfl), by decide +kernel, by decide +kernel, by decide +kernel⟩
theorem mv_X2_hasCode : Cond.instanceMethod yX2_hasCode ∈ am_tb ∧ Cond.selects yX2_hasCode.cls yX2_hasCode yX2_hasCode ∈ am_tb := ⟨(am_in 464 (by decide +kernel) rfl), (am_in 465 (by decide +kernel) rfl)⟩
theorem mc_X2_hasCode : ∃ T N, am_cl[1]? = some (yX2_hasCode.cls, T, N) := ⟨_, _, rfl⟩
abbrev mX10_bytes : MI := (yX10_bytes, cX10_bytes, 2, (some .int))
theorem mm_X10_bytes : am_M mX10_bytes 1 := ⟨(am_in 470 (by decide +kernel) rfl), (am_in 1 (by decide +kernel) rfl), by decide +kernel, by decide +kernel, by decide +kernel⟩
theorem mv_X10_bytes : Cond.instanceMethod yX10_bytes ∈ am_tb ∧ Cond.selects yX10_bytes.cls yX10_bytes yX10_bytes ∈ am_tb := ⟨(am_in 468 (by decide +kernel) rfl), (am_in 469 (by decide +kernel) rfl)⟩
theorem mc_X10_bytes : ∃ T N, am_cl[8]? = some (yX10_bytes.cls, T, N) := ⟨_, _, rfl⟩
abbrev mX2_hasByte : MI := (yX2_hasByte, cX2_hasByte, 2, (some .boolean))
theorem mm_X2_hasByte : am_M mX2_hasByte 1 := ⟨(am_in 474 (by decide +kernel) rfl), (am_in 4 (by decide +kernel) rfl), by decide +kernel, by decide +kernel, by decide +kernel⟩
theorem mv_X2_hasByte : Cond.instanceMethod yX2_hasByte ∈ am_tb ∧ Cond.selects yX2_hasByte.cls yX2_hasByte yX2_hasByte ∈ am_tb := ⟨(am_in 472 (by decide +kernel) rfl), (am_in 473 (by decide +kernel) rfl)⟩
theorem mc_X2_hasByte : ∃ T N, am_cl[1]? = some (yX2_hasByte.cls, T, N) := ⟨_, _, rfl⟩
abbrev mX10_run : MI := (yX10_run, cX10_run, 4, (some .int))
theorem mm_X10_run : am_M mX10_run 3 := ⟨(am_in 478 (by decide +kernel) rfl), (am_in 1 (by decide +kernel) rfl), by decide +kernel, by decide +kernel, by decide +kernel⟩
theorem mv_X10_run : Cond.instanceMethod yX10_run ∈ am_tb ∧ Cond.selects yX10_run.cls yX10_run yX10_run ∈ am_tb := ⟨(am_in 476 (by decide +kernel) rfl), (am_in 477 (by decide +kernel) rfl)⟩
theorem mc_X10_run : ∃ T N, am_cl[8]? = some (yX10_run.cls, T, N) := ⟨_, _, rfl⟩
abbrev mX6_follow : MI := (yX6_follow, cX6_follow, 6, (some .int))
theorem mm_X6_follow : am_M mX6_follow 3 := ⟨(am_in 482 (by decide +kernel) rfl), (am_in 6 (by decide +kernel) rfl), by decide +kernel, by decide +kernel, by decide +kernel⟩
theorem mv_X6_follow : Cond.instanceMethod yX6_follow ∈ am_tb ∧ Cond.selects yX6_follow.cls yX6_follow yX6_follow ∈ am_tb := ⟨(am_in 480 (by decide +kernel) rfl), (am_in 481 (by decide +kernel) rfl)⟩
theorem mc_X6_follow : ∃ T N, am_cl[4]? = some (yX6_follow.cls, T, N) := ⟨_, _, rfl⟩
abbrev mX6_clear : MI := (yX6_clear, cX6_clear, 1, none)
theorem mm_X6_clear : am_M mX6_clear 0 := ⟨(am_in 486 (by decide +kernel) rfl), (am_in 6 (by decide +kernel) rfl), by decide +kernel, by decide +kernel, by decide +kernel⟩
theorem mv_X6_clear : Cond.instanceMethod yX6_clear ∈ am_tb ∧ Cond.selects yX6_clear.cls yX6_clear yX6_clear ∈ am_tb := ⟨(am_in 485 (by decide +kernel) rfl), (am_inP 3 (by decide +kernel) rfl)⟩
theorem mc_X6_clear : ∃ T N, am_cl[4]? = some (yX6_clear.cls, T, N) := ⟨_, _, rfl⟩
abbrev mX6_endAhead : MI := (yX6_endAhead, cX6_endAhead, 3, (some .int))
theorem mm_X6_endAhead : am_M mX6_endAhead 2 := ⟨(am_in 492 (by decide +kernel) rfl), (am_in 6 (by decide +kernel) rfl), by decide +kernel, by decide +kernel, by decide +kernel⟩
theorem mv_X6_endAhead : Cond.instanceMethod yX6_endAhead ∈ am_tb ∧ Cond.selects yX6_endAhead.cls yX6_endAhead yX6_endAhead ∈ am_tb := ⟨(am_in 491 (by decide +kernel) rfl), (am_inP 4 (by decide +kernel) rfl)⟩
theorem mc_X6_endAhead : ∃ T N, am_cl[4]? = some (yX6_endAhead.cls, T, N) := ⟨_, _, rfl⟩
abbrev mX2_beginsAt : MI := (yX2_beginsAt, cX2_beginsAt, 2, (some .boolean))
theorem mm_X2_beginsAt : am_M mX2_beginsAt 1 := ⟨(am_in 497 (by decide +kernel) rfl), (am_in 4 (by decide +kernel) rfl), by decide +kernel, by decide +kernel, by decide +kernel⟩
theorem mv_X2_beginsAt : Cond.instanceMethod yX2_beginsAt ∈ am_tb ∧ Cond.selects yX2_beginsAt.cls yX2_beginsAt yX2_beginsAt ∈ am_tb := ⟨(am_in 495 (by decide +kernel) rfl), (am_in 496 (by decide +kernel) rfl)⟩
theorem mc_X2_beginsAt : ∃ T N, am_cl[1]? = some (yX2_beginsAt.cls, T, N) := ⟨_, _, rfl⟩
abbrev mX6_tryOrder : MI := (yX6_tryOrder, cX6_tryOrder, 3, (some .int))
theorem mm_X6_tryOrder : am_M mX6_tryOrder 1 := ⟨(am_in 501 (by decide +kernel) rfl), (am_in 6 (by decide +kernel) rfl), by decide +kernel, by decide +kernel, by decide +kernel⟩
theorem mv_X6_tryOrder : Cond.instanceMethod yX6_tryOrder ∈ am_tb ∧ Cond.selects yX6_tryOrder.cls yX6_tryOrder yX6_tryOrder ∈ am_tb := ⟨(am_in 500 (by decide +kernel) rfl), (am_inP 5 (by decide +kernel) rfl)⟩
theorem mc_X6_tryOrder : ∃ T N, am_cl[4]? = some (yX6_tryOrder.cls, T, N) := ⟨_, _, rfl⟩
abbrev mX6_carryOut : MI := (yX6_carryOut, cX6_carryOut, 4, none)
theorem mm_X6_carryOut : am_M mX6_carryOut 2 := ⟨(am_in 509 (by decide +kernel) rfl), (am_in 6 (by decide +kernel) rfl), by decide +kernel, by decide +kernel, by decide +kernel⟩
theorem mv_X6_carryOut : Cond.instanceMethod yX6_carryOut ∈ am_tb ∧ Cond.selects yX6_carryOut.cls yX6_carryOut yX6_carryOut ∈ am_tb := ⟨(am_in 508 (by decide +kernel) rfl), (am_inP 6 (by decide +kernel) rfl)⟩
theorem mc_X6_carryOut : ∃ T N, am_cl[4]? = some (yX6_carryOut.cls, T, N) := ⟨_, _, rfl⟩
abbrev mX6_lay : MI := (yX6_lay, cX6_lay, 2, none)
theorem mm_X6_lay : am_M mX6_lay 1 := ⟨(am_in 513 (by decide +kernel) rfl), (am_in 6 (by decide +kernel) rfl), by decide +kernel, by decide +kernel, by decide +kernel⟩
theorem mv_X6_lay : Cond.instanceMethod yX6_lay ∈ am_tb ∧ Cond.selects yX6_lay.cls yX6_lay yX6_lay ∈ am_tb := ⟨(am_in 512 (by decide +kernel) rfl), (am_inP 7 (by decide +kernel) rfl)⟩
theorem mc_X6_lay : ∃ T N, am_cl[4]? = some (yX6_lay.cls, T, N) := ⟨_, _, rfl⟩
abbrev mX6_layOneForTwo : MI := (yX6_layOneForTwo, cX6_layOneForTwo, 4, none)
theorem mm_X6_layOneForTwo : am_M mX6_layOneForTwo 1 := ⟨(am_in 517 (by decide +kernel) rfl), (am_in 6 (by decide +kernel) rfl), by decide +kernel, by decide +kernel, by decide +kernel⟩
theorem mv_X6_layOneForTwo : Cond.instanceMethod yX6_layOneForTwo ∈ am_tb ∧ Cond.selects yX6_layOneForTwo.cls yX6_layOneForTwo yX6_layOneForTwo ∈ am_tb := ⟨(am_in 516 (by decide +kernel) rfl), (am_inP 8 (by decide +kernel) rfl)⟩
theorem mc_X6_layOneForTwo : ∃ T N, am_cl[4]? = some (yX6_layOneForTwo.cls, T, N) := ⟨_, _, rfl⟩
abbrev mX6_lift : MI := (yX6_lift, cX6_lift, 1, (some .int))
theorem mm_X6_lift : am_M mX6_lift 0 := ⟨(am_in 521 (by decide +kernel) rfl), (am_in 6 (by decide +kernel) rfl), by decide +kernel, by decide +kernel, by decide +kernel⟩
theorem mv_X6_lift : Cond.instanceMethod yX6_lift ∈ am_tb ∧ Cond.selects yX6_lift.cls yX6_lift yX6_lift ∈ am_tb := ⟨(am_in 520 (by decide +kernel) rfl), (am_inP 9 (by decide +kernel) rfl)⟩
theorem mc_X6_lift : ∃ T N, am_cl[4]? = some (yX6_lift.cls, T, N) := ⟨_, _, rfl⟩
abbrev mX6_turnUpperTwo : MI := (yX6_turnUpperTwo, cX6_turnUpperTwo, 3, none)
theorem mm_X6_turnUpperTwo : am_M mX6_turnUpperTwo 0 := ⟨(am_in 525 (by decide +kernel) rfl), (am_in 6 (by decide +kernel) rfl), by decide +kernel, by decide +kernel, by decide +kernel⟩
theorem mv_X6_turnUpperTwo : Cond.instanceMethod yX6_turnUpperTwo ∈ am_tb ∧ Cond.selects yX6_turnUpperTwo.cls yX6_turnUpperTwo yX6_turnUpperTwo ∈ am_tb := ⟨(am_in 524 (by decide +kernel) rfl), (am_inP 10 (by decide +kernel) rfl)⟩
theorem mc_X6_turnUpperTwo : ∃ T N, am_cl[4]? = some (yX6_turnUpperTwo.cls, T, N) := ⟨_, _, rfl⟩
abbrev mX10_ran : MI := (yX10_ran, cX10_ran, 2, (some .int))
theorem mm_X10_ran : am_M mX10_ran 1 := ⟨(am_in 529 (by decide +kernel) rfl), (am_in 1 (by decide +kernel) rfl), by decide +kernel, by decide +kernel, by decide +kernel⟩
theorem mv_X10_ran : Cond.instanceMethod yX10_ran ∈ am_tb ∧ Cond.selects yX10_ran.cls yX10_ran yX10_ran ∈ am_tb := ⟨(am_in 527 (by decide +kernel) rfl), (am_in 528 (by decide +kernel) rfl)⟩
theorem mc_X10_ran : ∃ T N, am_cl[8]? = some (yX10_ran.cls, T, N) := ⟨_, _, rfl⟩
abbrev mX10_had : MI := (yX10_had, cX10_had, 3, (some .int))
theorem mm_X10_had : am_M mX10_had 2 := ⟨(am_in 533 (by decide +kernel) rfl), (am_in 1 (by decide +kernel) rfl), by decide +kernel, by decide +kernel, by decide +kernel⟩
theorem mv_X10_had : Cond.instanceMethod yX10_had ∈ am_tb ∧ Cond.selects yX10_had.cls yX10_had yX10_had ∈ am_tb := ⟨(am_in 531 (by decide +kernel) rfl), (am_in 532 (by decide +kernel) rfl)⟩
theorem mc_X10_had : ∃ T N, am_cl[8]? = some (yX10_had.cls, T, N) := ⟨_, _, rfl⟩
abbrev mX10_numberOf : MI := (yX10_numberOf, cX10_numberOf, 3, (some .int))
theorem mm_X10_numberOf : am_M mX10_numberOf 3 := ⟨(am_in 536 (by decide +kernel) rfl), (am_in 1 (by decide +kernel) rfl), by decide +kernel, by decide +kernel, by decide +kernel⟩
theorem ms_X10_numberOf : Cond.static yX10_numberOf ∈ am_tb := (am_in 535 (by decide +kernel) rfl)
abbrev mX10_cost : MI := (yX10_cost, cX10_cost, 4, (some .int))
theorem mm_X10_cost : am_M mX10_cost 1 := ⟨(am_in 540 (by decide +kernel) rfl), (am_in 1 (by decide +kernel) rfl), by decide +kernel, by decide +kernel, by decide +kernel⟩
theorem mv_X10_cost : Cond.instanceMethod yX10_cost ∈ am_tb ∧ Cond.selects yX10_cost.cls yX10_cost yX10_cost ∈ am_tb := ⟨(am_in 538 (by decide +kernel) rfl), (am_in 539 (by decide +kernel) rfl)⟩
theorem mc_X10_cost : ∃ T N, am_cl[8]? = some (yX10_cost.cls, T, N) := ⟨_, _, rfl⟩
abbrev mX10_choose : MI := (yX10_choose, cX10_choose, 3, (some .int))
theorem mm_X10_choose : am_M mX10_choose 2 := ⟨(am_in 544 (by decide +kernel) rfl), (am_in 1 (by decide +kernel) rfl), by decide +kernel, by decide +kernel, by decide +kernel⟩
theorem mv_X10_choose : Cond.instanceMethod yX10_choose ∈ am_tb ∧ Cond.selects yX10_choose.cls yX10_choose yX10_choose ∈ am_tb := ⟨(am_in 542 (by decide +kernel) rfl), (am_in 543 (by decide +kernel) rfl)⟩
theorem mc_X10_choose : ∃ T N, am_cl[8]? = some (yX10_choose.cls, T, N) := ⟨_, _, rfl⟩
abbrev mX0_search : MI := (yX0_search, cX0_search, 5, (some .int))
theorem mm_X0_search : am_M mX0_search 3 := ⟨(am_in 548 (by decide +kernel) rfl), (am_in 9 (by decide +kernel) rfl), by decide +kernel, by decide +kernel, by decide +kernel⟩
theorem mv_X0_search : Cond.instanceMethod yX0_search ∈ am_tb ∧ Cond.selects yX0_search.cls yX0_search yX0_search ∈ am_tb := ⟨(am_in 546 (by decide +kernel) rfl), (am_in 547 (by decide +kernel) rfl)⟩
theorem mc_X0_search : ∃ T N, am_cl[0]? = some (yX0_search.cls, T, N) := ⟨_, _, rfl⟩
abbrev mX0_gather : MI := (yX0_gather, cX0_gather, 7, (some .int))
theorem mm_X0_gather : am_M mX0_gather 2 := ⟨(am_in 552 (by decide +kernel) rfl), (am_in 9 (by decide +kernel) rfl), by decide +kernel, by decide +kernel, by decide +kernel⟩
theorem mv_X0_gather : Cond.instanceMethod yX0_gather ∈ am_tb ∧ Cond.selects yX0_gather.cls yX0_gather yX0_gather ∈ am_tb := ⟨(am_in 551 (by decide +kernel) rfl), (am_inP 11 (by decide +kernel) rfl)⟩
theorem mc_X0_gather : ∃ T N, am_cl[0]? = some (yX0_gather.cls, T, N) := ⟨_, _, rfl⟩
abbrev mX0_gatherAt : MI := (yX0_gatherAt, cX0_gatherAt, 10, none)
theorem mm_X0_gatherAt : am_M mX0_gatherAt 4 := ⟨(am_in 557 (by decide +kernel) rfl), (am_in 9 (by decide +kernel) rfl), by decide +kernel, by decide +kernel, by decide +kernel⟩
theorem mv_X0_gatherAt : Cond.instanceMethod yX0_gatherAt ∈ am_tb ∧ Cond.selects yX0_gatherAt.cls yX0_gatherAt yX0_gatherAt ∈ am_tb := ⟨(am_in 556 (by decide +kernel) rfl), (am_inP 12 (by decide +kernel) rfl)⟩
theorem mc_X0_gatherAt : ∃ T N, am_cl[0]? = some (yX0_gatherAt.cls, T, N) := ⟨_, _, rfl⟩
abbrev mX0_addStand : MI := (yX0_addStand, cX0_addStand, 6, none)
theorem mm_X0_addStand : am_M mX0_addStand 4 := ⟨(am_in 563 (by decide +kernel) rfl), (am_in 9 (by decide +kernel) rfl), by decide +kernel, by decide +kernel, by decide +kernel⟩
theorem mv_X0_addStand : Cond.instanceMethod yX0_addStand ∈ am_tb ∧ Cond.selects yX0_addStand.cls yX0_addStand yX0_addStand ∈ am_tb := ⟨(am_in 562 (by decide +kernel) rfl), (am_inP 13 (by decide +kernel) rfl)⟩
theorem mc_X0_addStand : ∃ T N, am_cl[0]? = some (yX0_addStand.cls, T, N) := ⟨_, _, rfl⟩
abbrev mX0_findRow : MI := (yX0_findRow, cX0_findRow, 6, (some .int))
theorem mm_X0_findRow : am_M mX0_findRow 1 := ⟨(am_in 567 (by decide +kernel) rfl), (am_in 9 (by decide +kernel) rfl), by decide +kernel, by decide +kernel, by decide +kernel⟩
theorem mv_X0_findRow : Cond.instanceMethod yX0_findRow ∈ am_tb ∧ Cond.selects yX0_findRow.cls yX0_findRow yX0_findRow ∈ am_tb := ⟨(am_in 566 (by decide +kernel) rfl), (am_inP 14 (by decide +kernel) rfl)⟩
theorem mc_X0_findRow : ∃ T N, am_cl[0]? = some (yX0_findRow.cls, T, N) := ⟨_, _, rfl⟩
abbrev mX0_chooseOne : MI := (yX0_chooseOne, cX0_chooseOne, 2, none)
theorem mm_X0_chooseOne : am_M mX0_chooseOne 0 := ⟨(am_in 572 (by decide +kernel) rfl), (am_in 9 (by decide +kernel) rfl), by decide +kernel, by decide +kernel, by decide +kernel⟩
theorem mv_X0_chooseOne : Cond.instanceMethod yX0_chooseOne ∈ am_tb ∧ Cond.selects yX0_chooseOne.cls yX0_chooseOne yX0_chooseOne ∈ am_tb := ⟨(am_in 571 (by decide +kernel) rfl), (am_inP 15 (by decide +kernel) rfl)⟩
theorem mc_X0_chooseOne : ∃ T N, am_cl[0]? = some (yX0_chooseOne.cls, T, N) := ⟨_, _, rfl⟩
abbrev mX0_mostSaved : MI := (yX0_mostSaved, cX0_mostSaved, 9, (some .int))
theorem mm_X0_mostSaved : am_M mX0_mostSaved 2 := ⟨(am_in 576 (by decide +kernel) rfl), (am_in 9 (by decide +kernel) rfl), by decide +kernel, by decide +kernel, by decide +kernel⟩
theorem mv_X0_mostSaved : Cond.instanceMethod yX0_mostSaved ∈ am_tb ∧ Cond.selects yX0_mostSaved.cls yX0_mostSaved yX0_mostSaved ∈ am_tb := ⟨(am_in 575 (by decide +kernel) rfl), (am_inP 16 (by decide +kernel) rfl)⟩
theorem mc_X0_mostSaved : ∃ T N, am_cl[0]? = some (yX0_mostSaved.cls, T, N) := ⟨_, _, rfl⟩
abbrev mX0_savedFrom : MI := (yX0_savedFrom, cX0_savedFrom, 4, (some .int))
theorem mm_X0_savedFrom : am_M mX0_savedFrom 2 := ⟨(am_in 580 (by decide +kernel) rfl), (am_in 9 (by decide +kernel) rfl), by decide +kernel, by decide +kernel, by decide +kernel⟩
theorem mv_X0_savedFrom : Cond.instanceMethod yX0_savedFrom ∈ am_tb ∧ Cond.selects yX0_savedFrom.cls yX0_savedFrom yX0_savedFrom ∈ am_tb := ⟨(am_in 579 (by decide +kernel) rfl), (am_inP 17 (by decide +kernel) rfl)⟩
theorem mc_X0_savedFrom : ∃ T N, am_cl[0]? = some (yX0_savedFrom.cls, T, N) := ⟨_, _, rfl⟩
abbrev mX0_chooseTwo : MI := (yX0_chooseTwo, cX0_chooseTwo, 3, none)
theorem mm_X0_chooseTwo : am_M mX0_chooseTwo 0 := ⟨(am_in 587 (by decide +kernel) rfl), (am_in 9 (by decide +kernel) rfl), by decide +kernel, by decide +kernel, by decide +kernel⟩
theorem mv_X0_chooseTwo : Cond.instanceMethod yX0_chooseTwo ∈ am_tb ∧ Cond.selects yX0_chooseTwo.cls yX0_chooseTwo yX0_chooseTwo ∈ am_tb := ⟨(am_in 586 (by decide +kernel) rfl), (am_inP 18 (by decide +kernel) rfl)⟩
theorem mc_X0_chooseTwo : ∃ T N, am_cl[0]? = some (yX0_chooseTwo.cls, T, N) := ⟨_, _, rfl⟩
abbrev mX0_tryTwo : MI := (yX0_tryTwo, cX0_tryTwo, 4, none)
theorem mm_X0_tryTwo : am_M mX0_tryTwo 2 := ⟨(am_in 591 (by decide +kernel) rfl), (am_in 9 (by decide +kernel) rfl), by decide +kernel, by decide +kernel, by decide +kernel⟩
theorem mv_X0_tryTwo : Cond.instanceMethod yX0_tryTwo ∈ am_tb ∧ Cond.selects yX0_tryTwo.cls yX0_tryTwo yX0_tryTwo ∈ am_tb := ⟨(am_in 590 (by decide +kernel) rfl), (am_inP 19 (by decide +kernel) rfl)⟩
theorem mc_X0_tryTwo : ∃ T N, am_cl[0]? = some (yX0_tryTwo.cls, T, N) := ⟨_, _, rfl⟩
abbrev mX10_chosen : MI := (yX10_chosen, cX10_chosen, 3, (some .int))
theorem mm_X10_chosen : am_M mX10_chosen 2 := ⟨(am_in 596 (by decide +kernel) rfl), (am_in 1 (by decide +kernel) rfl), by decide +kernel, by decide +kernel, by decide +kernel⟩
theorem mv_X10_chosen : Cond.instanceMethod yX10_chosen ∈ am_tb ∧ Cond.selects yX10_chosen.cls yX10_chosen yX10_chosen ∈ am_tb := ⟨(am_in 594 (by decide +kernel) rfl), (am_in 595 (by decide +kernel) rfl)⟩
theorem mc_X10_chosen : ∃ T N, am_cl[8]? = some (yX10_chosen.cls, T, N) := ⟨_, _, rfl⟩
abbrev mX10_take : MI := (yX10_take, cX10_take, 1, (some .int))
theorem mm_X10_take : am_M mX10_take 0 := ⟨(am_in 600 (by decide +kernel) rfl), (am_in 1 (by decide +kernel) rfl), by decide +kernel, by decide +kernel, by decide +kernel⟩
theorem mv_X10_take : Cond.instanceMethod yX10_take ∈ am_tb ∧ Cond.selects yX10_take.cls yX10_take yX10_take ∈ am_tb := ⟨(am_in 598 (by decide +kernel) rfl), (am_in 599 (by decide +kernel) rfl)⟩
theorem mc_X10_take : ∃ T N, am_cl[8]? = some (yX10_take.cls, T, N) := ⟨_, _, rfl⟩
abbrev mX5_copyFrom : MI := (yX5_copyFrom, cX5_copyFrom, 2, none)
theorem mm_X5_copyFrom : am_M mX5_copyFrom 1 := ⟨(am_in 604 (by decide +kernel) rfl), (am_in 3 (by decide +kernel) rfl), by decide +kernel, by decide +kernel, by decide +kernel⟩
theorem mv_X5_copyFrom : Cond.instanceMethod yX5_copyFrom ∈ am_tb ∧ Cond.selects yX5_copyFrom.cls yX5_copyFrom yX5_copyFrom ∈ am_tb := ⟨(am_in 602 (by decide +kernel) rfl), (am_in 603 (by decide +kernel) rfl)⟩
theorem mc_X5_copyFrom : ∃ T N, am_cl[3]? = some (yX5_copyFrom.cls, T, N) := ⟨_, _, rfl⟩
abbrev mX10_feed : MI := (yX10_feed, cX10_feed, 3, (some .int))
theorem mm_X10_feed : am_M mX10_feed 2 := ⟨(am_in 609 (by decide +kernel) rfl), (am_in 1 (by decide +kernel) rfl), by decide +kernel, by decide +kernel, by decide +kernel⟩
theorem mv_X10_feed : Cond.instanceMethod yX10_feed ∈ am_tb ∧ Cond.selects yX10_feed.cls yX10_feed yX10_feed ∈ am_tb := ⟨(am_in 607 (by decide +kernel) rfl), (am_in 608 (by decide +kernel) rfl)⟩
theorem mc_X10_feed : ∃ T N, am_cl[8]? = some (yX10_feed.cls, T, N) := ⟨_, _, rfl⟩
abbrev mX8_append : MI := (yX8_append, cX8_append, 4, (some .boolean))
theorem mm_X8_append : am_M mX8_append 2 := ⟨(am_in 613 (by decide +kernel) rfl), (am_in 7 (by decide +kernel) rfl), by decide +kernel, by decide +kernel, by decide +kernel⟩
theorem mv_X8_append : Cond.instanceMethod yX8_append ∈ am_tb ∧ Cond.selects yX8_append.cls yX8_append yX8_append ∈ am_tb := ⟨(am_in 611 (by decide +kernel) rfl), (am_in 612 (by decide +kernel) rfl)⟩
theorem mc_X8_append : ∃ T N, am_cl[6]? = some (yX8_append.cls, T, N) := ⟨_, _, rfl⟩
abbrev mX10_read : MI := (yX10_read, cX10_read, 1, (some .int))
theorem mm_X10_read : am_M mX10_read 0 := ⟨(am_in 617 (by decide +kernel) rfl), (am_in 1 (by decide +kernel) rfl), by decide +kernel, by decide +kernel, by decide +kernel⟩
theorem mv_X10_read : Cond.instanceMethod yX10_read ∈ am_tb ∧ Cond.selects yX10_read.cls yX10_read yX10_read ∈ am_tb := ⟨(am_in 615 (by decide +kernel) rfl), (am_in 616 (by decide +kernel) rfl)⟩
theorem mc_X10_read : ∃ T N, am_cl[8]? = some (yX10_read.cls, T, N) := ⟨_, _, rfl⟩
abbrev mX8_readInto : MI := (yX8_readInto, cX8_readInto, 5, (some .boolean))
theorem mm_X8_readInto : am_M mX8_readInto 2 := ⟨(am_in 621 (by decide +kernel) rfl), (am_in 7 (by decide +kernel) rfl), by decide +kernel, by decide +kernel, by decide +kernel⟩
theorem mv_X8_readInto : Cond.instanceMethod yX8_readInto ∈ am_tb ∧ Cond.selects yX8_readInto.cls yX8_readInto yX8_readInto ∈ am_tb := ⟨(am_in 619 (by decide +kernel) rfl), (am_in 620 (by decide +kernel) rfl)⟩
theorem mc_X8_readInto : ∃ T N, am_cl[6]? = some (yX8_readInto.cls, T, N) := ⟨_, _, rfl⟩
abbrev mX8_readCode : MI := (yX8_readCode, cX8_readCode, 6, (some .boolean))
theorem mm_X8_readCode : am_M mX8_readCode 3 := ⟨(am_in 626 (by decide +kernel) rfl), (am_in 7 (by decide +kernel) rfl), by decide +kernel, by decide +kernel, by decide +kernel⟩
theorem mv_X8_readCode : Cond.instanceMethod yX8_readCode ∈ am_tb ∧ Cond.selects yX8_readCode.cls yX8_readCode yX8_readCode ∈ am_tb := ⟨(am_in 625 (by decide +kernel) rfl), (am_inP 20 (by decide +kernel) rfl)⟩
theorem mc_X8_readCode : ∃ T N, am_cl[6]? = some (yX8_readCode.cls, T, N) := ⟨_, _, rfl⟩
abbrev mX8_readOrder : MI := (yX8_readOrder, cX8_readOrder, 4, (some .boolean))
theorem mm_X8_readOrder : am_M mX8_readOrder 2 := ⟨(am_in 631 (by decide +kernel) rfl), (am_in 7 (by decide +kernel) rfl), by decide +kernel, by decide +kernel, by decide +kernel⟩
theorem mv_X8_readOrder : Cond.instanceMethod yX8_readOrder ∈ am_tb ∧ Cond.selects yX8_readOrder.cls yX8_readOrder yX8_readOrder ∈ am_tb := ⟨(am_in 630 (by decide +kernel) rfl), (am_inP 21 (by decide +kernel) rfl)⟩
theorem mc_X8_readOrder : ∃ T N, am_cl[6]? = some (yX8_readOrder.cls, T, N) := ⟨_, _, rfl⟩
abbrev mX10_count : MI := (yX10_count, cX10_count, 2, (some .int))
theorem mm_X10_count : am_M mX10_count 1 := ⟨(am_in 638 (by decide +kernel) rfl), (am_in 1 (by decide +kernel) rfl), by decide +kernel, by decide +kernel, by decide +kernel⟩
theorem mv_X10_count : Cond.instanceMethod yX10_count ∈ am_tb ∧ Cond.selects yX10_count.cls yX10_count yX10_count ∈ am_tb := ⟨(am_in 636 (by decide +kernel) rfl), (am_in 637 (by decide +kernel) rfl)⟩
theorem mc_X10_count : ∃ T N, am_cl[8]? = some (yX10_count.cls, T, N) := ⟨_, _, rfl⟩
abbrev mX10_image : MI := (yX10_image, cX10_image, 2, (some .boolean))
theorem mm_X10_image : am_M mX10_image 1 := ⟨(am_in 642 (by decide +kernel) rfl), (am_in 1 (by decide +kernel) rfl), by decide +kernel, by decide +kernel, by decide +kernel⟩
theorem mv_X10_image : Cond.instanceMethod yX10_image ∈ am_tb ∧ Cond.selects yX10_image.cls yX10_image yX10_image ∈ am_tb := ⟨(am_in 640 (by decide +kernel) rfl), (am_in 641 (by decide +kernel) rfl)⟩
theorem mc_X10_image : ∃ T N, am_cl[8]? = some (yX10_image.cls, T, N) := ⟨_, _, rfl⟩
abbrev mX7_copyFrom : MI := (yX7_copyFrom, cX7_copyFrom, 3, none)
theorem mm_X7_copyFrom : am_M mX7_copyFrom 1 := ⟨(am_in 646 (by decide +kernel) rfl), (am_in 2 (by decide +kernel) rfl), by decide +kernel, by decide +kernel, by decide +kernel⟩
theorem mv_X7_copyFrom : Cond.instanceMethod yX7_copyFrom ∈ am_tb ∧ Cond.selects yX7_copyFrom.cls yX7_copyFrom yX7_copyFrom ∈ am_tb := ⟨(am_in 644 (by decide +kernel) rfl), (am_in 645 (by decide +kernel) rfl)⟩
theorem mc_X7_copyFrom : ∃ T N, am_cl[5]? = some (yX7_copyFrom.cls, T, N) := ⟨_, _, rfl⟩
abbrev mX2_copyFrom : MI := (yX2_copyFrom, cX2_copyFrom, 2, none)
theorem mm_X2_copyFrom : am_M mX2_copyFrom 1 := ⟨(am_in 652 (by decide +kernel) rfl), (am_in 4 (by decide +kernel) rfl), by decide +kernel, by decide +kernel, by decide +kernel⟩
theorem mv_X2_copyFrom : Cond.instanceMethod yX2_copyFrom ∈ am_tb ∧ Cond.selects yX2_copyFrom.cls yX2_copyFrom yX2_copyFrom ∈ am_tb := ⟨(am_in 650 (by decide +kernel) rfl), (am_in 651 (by decide +kernel) rfl)⟩
theorem mc_X2_copyFrom : ∃ T N, am_cl[1]? = some (yX2_copyFrom.cls, T, N) := ⟨_, _, rfl⟩
abbrev mX6_copyFrom : MI := (yX6_copyFrom, cX6_copyFrom, 2, none)
theorem mm_X6_copyFrom : am_M mX6_copyFrom 1 := ⟨(am_in 657 (by decide +kernel) rfl), (am_in 6 (by decide +kernel) rfl), by decide +kernel, by decide +kernel, by decide +kernel⟩
theorem mv_X6_copyFrom : Cond.instanceMethod yX6_copyFrom ∈ am_tb ∧ Cond.selects yX6_copyFrom.cls yX6_copyFrom yX6_copyFrom ∈ am_tb := ⟨(am_in 655 (by decide +kernel) rfl), (am_in 656 (by decide +kernel) rfl)⟩
theorem mc_X6_copyFrom : ∃ T N, am_cl[4]? = some (yX6_copyFrom.cls, T, N) := ⟨_, _, rfl⟩
abbrev mX8_copyFrom : MI := (yX8_copyFrom, cX8_copyFrom, 2, none)
theorem mm_X8_copyFrom : am_M mX8_copyFrom 1 := ⟨(am_in 662 (by decide +kernel) rfl), (am_in 7 (by decide +kernel) rfl), by decide +kernel, by decide +kernel, by decide +kernel⟩
theorem mv_X8_copyFrom : Cond.instanceMethod yX8_copyFrom ∈ am_tb ∧ Cond.selects yX8_copyFrom.cls yX8_copyFrom yX8_copyFrom ∈ am_tb := ⟨(am_in 660 (by decide +kernel) rfl), (am_in 661 (by decide +kernel) rfl)⟩
theorem mc_X8_copyFrom : ∃ T N, am_cl[6]? = some (yX8_copyFrom.cls, T, N) := ⟨_, _, rfl⟩
abbrev mX10_again : MI := (yX10_again, cX10_again, 2, (some .boolean))
theorem mm_X10_again : am_M mX10_again 1 := ⟨(am_in 667 (by decide +kernel) rfl), (am_in 1 (by decide +kernel) rfl), by decide +kernel, by decide +kernel, by decide +kernel⟩
theorem mv_X10_again : Cond.instanceMethod yX10_again ∈ am_tb ∧ Cond.selects yX10_again.cls yX10_again yX10_again ∈ am_tb := ⟨(am_in 665 (by decide +kernel) rfl), (am_in 666 (by decide +kernel) rfl)⟩
theorem mc_X10_again : ∃ T N, am_cl[8]? = some (yX10_again.cls, T, N) := ⟨_, _, rfl⟩
abbrev mX11_init : MI := (yX11_init, cX11_init, 1, none)
theorem mm_X11_init : am_M mX11_init 0 := ⟨(am_in 672 (by decide +kernel) rfl), (am_in 10 (by decide +kernel) rfl), by decide +kernel, by decide +kernel, by decide +kernel⟩
theorem mi_X11_init : Cond.instanceMethod yX11_init ∈ am_tb := (am_in 671 (by decide +kernel) rfl)
abbrev mX11_program : MI := (yX11_program, cX11_program, 2, (some .int))
theorem mm_X11_program : am_M mX11_program 0 := ⟨(am_in 823 (by decide +kernel) rfl), (am_in 10 (by decide +kernel) rfl), by decide +kernel, by decide +kernel, by decide +kernel⟩
theorem mv_X11_program : Cond.instanceMethod yX11_program ∈ am_tb ∧ Cond.selects yX11_program.cls yX11_program yX11_program ∈ am_tb := ⟨(am_in 821 (by decide +kernel) rfl), (am_in 822 (by decide +kernel) rfl)⟩
theorem mc_X11_program : ∃ T N, am_cl[9]? = some (yX11_program.cls, T, N) := ⟨_, _, rfl⟩
abbrev mX11_forget : MI := (yX11_forget, cX11_forget, 3, none)
theorem mm_X11_forget : am_M mX11_forget 1 := ⟨(am_in 827 (by decide +kernel) rfl), (am_in 10 (by decide +kernel) rfl), by decide +kernel, by decide +kernel, by decide +kernel⟩
theorem mv_X11_forget : Cond.instanceMethod yX11_forget ∈ am_tb ∧ Cond.selects yX11_forget.cls yX11_forget yX11_forget ∈ am_tb := ⟨(am_in 826 (by decide +kernel) rfl), (am_inP 22 (by decide +kernel) rfl)⟩
theorem mc_X11_forget : ∃ T N, am_cl[9]? = some (yX11_forget.cls, T, N) := ⟨_, _, rfl⟩
abbrev mX11_order : MI := (yX11_order, cX11_order, 5, (some .int))
theorem mm_X11_order : am_M mX11_order 3 := ⟨(am_in 831 (by decide +kernel) rfl), (am_in 10 (by decide +kernel) rfl), by decide +kernel, by decide +kernel, by decide +kernel⟩
theorem mv_X11_order : Cond.instanceMethod yX11_order ∈ am_tb ∧ Cond.selects yX11_order.cls yX11_order yX11_order ∈ am_tb := ⟨(am_in 829 (by decide +kernel) rfl), (am_in 830 (by decide +kernel) rfl)⟩
theorem mc_X11_order : ∃ T N, am_cl[9]? = some (yX11_order.cls, T, N) := ⟨_, _, rfl⟩
abbrev mX11_isProgram : MI := (yX11_isProgram, cX11_isProgram, 2, (some .boolean))
theorem mm_X11_isProgram : am_M mX11_isProgram 1 := ⟨(am_in 835 (by decide +kernel) rfl), (am_in 10 (by decide +kernel) rfl), by decide +kernel, by decide +kernel, by decide +kernel⟩
theorem mv_X11_isProgram : Cond.instanceMethod yX11_isProgram ∈ am_tb ∧ Cond.selects yX11_isProgram.cls yX11_isProgram yX11_isProgram ∈ am_tb := ⟨(am_in 834 (by decide +kernel) rfl), (am_inP 23 (by decide +kernel) rfl)⟩
theorem mc_X11_isProgram : ∃ T N, am_cl[9]? = some (yX11_isProgram.cls, T, N) := ⟨_, _, rfl⟩
abbrev mX11_in : MI := (yX11_in, cX11_in, 3, (some .boolean))
theorem mm_X11_in : am_M mX11_in 3 := ⟨(am_in 838 (by decide +kernel) rfl), (am_in 10 (by decide +kernel) rfl), by decide +kernel, by decide +kernel, by decide +kernel⟩
theorem ms_X11_in : Cond.static yX11_in ∈ am_tb := (am_in 837 (by decide +kernel) rfl)
abbrev mX11_isArgument : MI := (yX11_isArgument, cX11_isArgument, 2, (some .boolean))
theorem mm_X11_isArgument : am_M mX11_isArgument 2 := ⟨(am_in 841 (by decide +kernel) rfl), (am_in 10 (by decide +kernel) rfl), by decide +kernel, by decide +kernel, by decide +kernel⟩
theorem ms_X11_isArgument : Cond.static yX11_isArgument ∈ am_tb := (am_in 840 (by decide +kernel) rfl)
abbrev mX11_change : MI := (yX11_change, cX11_change, 5, (some .boolean))
theorem mm_X11_change : am_M mX11_change 3 := ⟨(am_in 845 (by decide +kernel) rfl), (am_in 10 (by decide +kernel) rfl), by decide +kernel, by decide +kernel, by decide +kernel⟩
theorem mv_X11_change : Cond.instanceMethod yX11_change ∈ am_tb ∧ Cond.selects yX11_change.cls yX11_change yX11_change ∈ am_tb := ⟨(am_in 843 (by decide +kernel) rfl), (am_in 844 (by decide +kernel) rfl)⟩
theorem mc_X11_change : ∃ T N, am_cl[9]? = some (yX11_change.cls, T, N) := ⟨_, _, rfl⟩
abbrev mX11_hasArgument : MI := (yX11_hasArgument, cX11_hasArgument, 1, (some .boolean))
theorem mm_X11_hasArgument : am_M mX11_hasArgument 1 := ⟨(am_in 848 (by decide +kernel) rfl), (am_in 10 (by decide +kernel) rfl), by decide +kernel, by decide +kernel, by decide +kernel⟩
theorem ms_X11_hasArgument : Cond.static yX11_hasArgument ∈ am_tb := (am_in 847 (by decide +kernel) rfl)
abbrev mX11_tell : MI := (yX11_tell, cX11_tell, 5, (some .int))
theorem mm_X11_tell : am_M mX11_tell 3 := ⟨(am_in 852 (by decide +kernel) rfl), (am_in 10 (by decide +kernel) rfl), by decide +kernel, by decide +kernel, by decide +kernel⟩
theorem mv_X11_tell : Cond.instanceMethod yX11_tell ∈ am_tb ∧ Cond.selects yX11_tell.cls yX11_tell yX11_tell ∈ am_tb := ⟨(am_in 850 (by decide +kernel) rfl), (am_in 851 (by decide +kernel) rfl)⟩
theorem mc_X11_tell : ∃ T N, am_cl[9]? = some (yX11_tell.cls, T, N) := ⟨_, _, rfl⟩
abbrev mX11_isLed : MI := (yX11_isLed, cX11_isLed, 5, (some .boolean))
theorem mm_X11_isLed : am_M mX11_isLed 2 := ⟨(am_in 856 (by decide +kernel) rfl), (am_in 10 (by decide +kernel) rfl), by decide +kernel, by decide +kernel, by decide +kernel⟩
theorem mv_X11_isLed : Cond.instanceMethod yX11_isLed ∈ am_tb ∧ Cond.selects yX11_isLed.cls yX11_isLed yX11_isLed ∈ am_tb := ⟨(am_in 855 (by decide +kernel) rfl), (am_inP 24 (by decide +kernel) rfl)⟩
theorem mc_X11_isLed : ∃ T N, am_cl[9]? = some (yX11_isLed.cls, T, N) := ⟨_, _, rfl⟩
abbrev mX11_join : MI := (yX11_join, cX11_join, 11, (some .int))
theorem mm_X11_join : am_M mX11_join 5 := ⟨(am_in 860 (by decide +kernel) rfl), (am_in 10 (by decide +kernel) rfl), by decide +kernel, by decide +kernel, by decide +kernel⟩
theorem mv_X11_join : Cond.instanceMethod yX11_join ∈ am_tb ∧ Cond.selects yX11_join.cls yX11_join yX11_join ∈ am_tb := ⟨(am_in 858 (by decide +kernel) rfl), (am_in 859 (by decide +kernel) rfl)⟩
theorem mc_X11_join : ∃ T N, am_cl[9]? = some (yX11_join.cls, T, N) := ⟨_, _, rfl⟩
abbrev mX11_isLast : MI := (yX11_isLast, cX11_isLast, 1, (some .boolean))
theorem mm_X11_isLast : am_M mX11_isLast 1 := ⟨(am_in 863 (by decide +kernel) rfl), (am_in 10 (by decide +kernel) rfl), by decide +kernel, by decide +kernel, by decide +kernel⟩
theorem ms_X11_isLast : Cond.static yX11_isLast ∈ am_tb := (am_in 862 (by decide +kernel) rfl)
abbrev mX11_part : MI := (yX11_part, cX11_part, 1, none)
theorem mm_X11_part : am_M mX11_part 0 := ⟨(am_in 867 (by decide +kernel) rfl), (am_in 10 (by decide +kernel) rfl), by decide +kernel, by decide +kernel, by decide +kernel⟩
theorem mv_X11_part : Cond.instanceMethod yX11_part ∈ am_tb ∧ Cond.selects yX11_part.cls yX11_part yX11_part ∈ am_tb := ⟨(am_in 865 (by decide +kernel) rfl), (am_in 866 (by decide +kernel) rfl)⟩
theorem mc_X11_part : ∃ T N, am_cl[9]? = some (yX11_part.cls, T, N) := ⟨_, _, rfl⟩
abbrev mX11_joined : MI := (yX11_joined, cX11_joined, 3, (some .int))
theorem mm_X11_joined : am_M mX11_joined 2 := ⟨(am_in 871 (by decide +kernel) rfl), (am_in 10 (by decide +kernel) rfl), by decide +kernel, by decide +kernel, by decide +kernel⟩
theorem mv_X11_joined : Cond.instanceMethod yX11_joined ∈ am_tb ∧ Cond.selects yX11_joined.cls yX11_joined yX11_joined ∈ am_tb := ⟨(am_in 869 (by decide +kernel) rfl), (am_in 870 (by decide +kernel) rfl)⟩
theorem mc_X11_joined : ∃ T N, am_cl[9]? = some (yX11_joined.cls, T, N) := ⟨_, _, rfl⟩
abbrev mX11_pack : MI := (yX11_pack, cX11_pack, 8, (some .int))
theorem mm_X11_pack : am_M mX11_pack 1 := ⟨(am_in 875 (by decide +kernel) rfl), (am_in 10 (by decide +kernel) rfl), by decide +kernel, by decide +kernel, by decide +kernel⟩
theorem mv_X11_pack : Cond.instanceMethod yX11_pack ∈ am_tb ∧ Cond.selects yX11_pack.cls yX11_pack yX11_pack ∈ am_tb := ⟨(am_in 873 (by decide +kernel) rfl), (am_in 874 (by decide +kernel) rfl)⟩
theorem mc_X11_pack : ∃ T N, am_cl[9]? = some (yX11_pack.cls, T, N) := ⟨_, _, rfl⟩
abbrev mX11_takeJoins : MI := (yX11_takeJoins, cX11_takeJoins, 2, none)
theorem mm_X11_takeJoins : am_M mX11_takeJoins 0 := ⟨(am_in 879 (by decide +kernel) rfl), (am_in 10 (by decide +kernel) rfl), by decide +kernel, by decide +kernel, by decide +kernel⟩
theorem mv_X11_takeJoins : Cond.instanceMethod yX11_takeJoins ∈ am_tb ∧ Cond.selects yX11_takeJoins.cls yX11_takeJoins yX11_takeJoins ∈ am_tb := ⟨(am_in 878 (by decide +kernel) rfl), (am_inP 25 (by decide +kernel) rfl)⟩
theorem mc_X11_takeJoins : ∃ T N, am_cl[9]? = some (yX11_takeJoins.cls, T, N) := ⟨_, _, rfl⟩
abbrev mX11_findLeast : MI := (yX11_findLeast, cX11_findLeast, 8, none)
theorem mm_X11_findLeast : am_M mX11_findLeast 2 := ⟨(am_in 883 (by decide +kernel) rfl), (am_in 10 (by decide +kernel) rfl), by decide +kernel, by decide +kernel, by decide +kernel⟩
theorem mv_X11_findLeast : Cond.instanceMethod yX11_findLeast ∈ am_tb ∧ Cond.selects yX11_findLeast.cls yX11_findLeast yX11_findLeast ∈ am_tb := ⟨(am_in 882 (by decide +kernel) rfl), (am_inP 26 (by decide +kernel) rfl)⟩
theorem mc_X11_findLeast : ∃ T N, am_cl[9]? = some (yX11_findLeast.cls, T, N) := ⟨_, _, rfl⟩
abbrev mX11_readLed : MI := (yX11_readLed, cX11_readLed, 4, none)
theorem mm_X11_readLed : am_M mX11_readLed 1 := ⟨(am_in 887 (by decide +kernel) rfl), (am_in 10 (by decide +kernel) rfl), by decide +kernel, by decide +kernel, by decide +kernel⟩
theorem mv_X11_readLed : Cond.instanceMethod yX11_readLed ∈ am_tb ∧ Cond.selects yX11_readLed.cls yX11_readLed yX11_readLed ∈ am_tb := ⟨(am_in 886 (by decide +kernel) rfl), (am_inP 27 (by decide +kernel) rfl)⟩
theorem mc_X11_readLed : ∃ T N, am_cl[9]? = some (yX11_readLed.cls, T, N) := ⟨_, _, rfl⟩
abbrev mX11_stands : MI := (yX11_stands, cX11_stands, 6, (some .boolean))
theorem mm_X11_stands : am_M mX11_stands 3 := ⟨(am_in 891 (by decide +kernel) rfl), (am_in 10 (by decide +kernel) rfl), by decide +kernel, by decide +kernel, by decide +kernel⟩
theorem mv_X11_stands : Cond.instanceMethod yX11_stands ∈ am_tb ∧ Cond.selects yX11_stands.cls yX11_stands yX11_stands ∈ am_tb := ⟨(am_in 890 (by decide +kernel) rfl), (am_inP 28 (by decide +kernel) rfl)⟩
theorem mc_X11_stands : ∃ T N, am_cl[9]? = some (yX11_stands.cls, T, N) := ⟨_, _, rfl⟩
abbrev mX11_putByte : MI := (yX11_putByte, cX11_putByte, 2, none)
theorem mm_X11_putByte : am_M mX11_putByte 1 := ⟨(am_in 895 (by decide +kernel) rfl), (am_in 10 (by decide +kernel) rfl), by decide +kernel, by decide +kernel, by decide +kernel⟩
theorem mv_X11_putByte : Cond.instanceMethod yX11_putByte ∈ am_tb ∧ Cond.selects yX11_putByte.cls yX11_putByte yX11_putByte ∈ am_tb := ⟨(am_in 894 (by decide +kernel) rfl), (am_inP 29 (by decide +kernel) rfl)⟩
theorem mc_X11_putByte : ∃ T N, am_cl[9]? = some (yX11_putByte.cls, T, N) := ⟨_, _, rfl⟩
abbrev mX11_code : MI := (yX11_code, cX11_code, 3, (some .int))
theorem mm_X11_code : am_M mX11_code 2 := ⟨(am_in 899 (by decide +kernel) rfl), (am_in 10 (by decide +kernel) rfl), by decide +kernel, by decide +kernel, by decide +kernel⟩
theorem mv_X11_code : Cond.instanceMethod yX11_code ∈ am_tb ∧ Cond.selects yX11_code.cls yX11_code yX11_code ∈ am_tb := ⟨(am_in 897 (by decide +kernel) rfl), (am_in 898 (by decide +kernel) rfl)⟩
theorem mc_X11_code : ∃ T N, am_cl[9]? = some (yX11_code.cls, T, N) := ⟨_, _, rfl⟩
abbrev mX11_bytes : MI := (yX11_bytes, cX11_bytes, 2, (some .int))
theorem mm_X11_bytes : am_M mX11_bytes 1 := ⟨(am_in 903 (by decide +kernel) rfl), (am_in 10 (by decide +kernel) rfl), by decide +kernel, by decide +kernel, by decide +kernel⟩
theorem mv_X11_bytes : Cond.instanceMethod yX11_bytes ∈ am_tb ∧ Cond.selects yX11_bytes.cls yX11_bytes yX11_bytes ∈ am_tb := ⟨(am_in 901 (by decide +kernel) rfl), (am_in 902 (by decide +kernel) rfl)⟩
theorem mc_X11_bytes : ∃ T N, am_cl[9]? = some (yX11_bytes.cls, T, N) := ⟨_, _, rfl⟩
abbrev mX11_run : MI := (yX11_run, cX11_run, 7, (some .int))
theorem mm_X11_run : am_M mX11_run 3 := ⟨(am_in 907 (by decide +kernel) rfl), (am_in 10 (by decide +kernel) rfl), by decide +kernel, by decide +kernel, by decide +kernel⟩
theorem mv_X11_run : Cond.instanceMethod yX11_run ∈ am_tb ∧ Cond.selects yX11_run.cls yX11_run yX11_run ∈ am_tb := ⟨(am_in 905 (by decide +kernel) rfl), (am_in 906 (by decide +kernel) rfl)⟩
theorem mc_X11_run : ∃ T N, am_cl[9]? = some (yX11_run.cls, T, N) := ⟨_, _, rfl⟩
abbrev mX11_runs : MI := (yX11_runs, cX11_runs, 7, (some .int))
theorem mm_X11_runs : am_M mX11_runs 2 := ⟨(am_in 911 (by decide +kernel) rfl), (am_in 10 (by decide +kernel) rfl), by decide +kernel, by decide +kernel, by decide +kernel⟩
theorem mv_X11_runs : Cond.instanceMethod yX11_runs ∈ am_tb ∧ Cond.selects yX11_runs.cls yX11_runs yX11_runs ∈ am_tb := ⟨(am_in 910 (by decide +kernel) rfl), (am_inP 30 (by decide +kernel) rfl)⟩
theorem mc_X11_runs : ∃ T N, am_cl[9]? = some (yX11_runs.cls, T, N) := ⟨_, _, rfl⟩
abbrev mX11_wants : MI := (yX11_wants, cX11_wants, 1, (some .int))
theorem mm_X11_wants : am_M mX11_wants 1 := ⟨(am_in 914 (by decide +kernel) rfl), (am_in 10 (by decide +kernel) rfl), by decide +kernel, by decide +kernel, by decide +kernel⟩
theorem ms_X11_wants : Cond.static yX11_wants ∈ am_tb := (am_in 913 (by decide +kernel) rfl)
abbrev mX11_does : MI := (yX11_does, cX11_does, 5, (some .int))
theorem mm_X11_does : am_M mX11_does 1 := ⟨(am_in 918 (by decide +kernel) rfl), (am_in 10 (by decide +kernel) rfl), by decide +kernel, by decide +kernel, by decide +kernel⟩
theorem mv_X11_does : Cond.instanceMethod yX11_does ∈ am_tb ∧ Cond.selects yX11_does.cls yX11_does yX11_does ∈ am_tb := ⟨(am_in 917 (by decide +kernel) rfl), (am_inP 31 (by decide +kernel) rfl)⟩
theorem mc_X11_does : ∃ T N, am_cl[9]? = some (yX11_does.cls, T, N) := ⟨_, _, rfl⟩
abbrev mX11_push : MI := (yX11_push, cX11_push, 2, none)
theorem mm_X11_push : am_M mX11_push 1 := ⟨(am_in 922 (by decide +kernel) rfl), (am_in 10 (by decide +kernel) rfl), by decide +kernel, by decide +kernel, by decide +kernel⟩
theorem mv_X11_push : Cond.instanceMethod yX11_push ∈ am_tb ∧ Cond.selects yX11_push.cls yX11_push yX11_push ∈ am_tb := ⟨(am_in 921 (by decide +kernel) rfl), (am_inP 32 (by decide +kernel) rfl)⟩
theorem mc_X11_push : ∃ T N, am_cl[9]? = some (yX11_push.cls, T, N) := ⟨_, _, rfl⟩
abbrev mX11_pop : MI := (yX11_pop, cX11_pop, 1, (some .int))
theorem mm_X11_pop : am_M mX11_pop 0 := ⟨(am_in 926 (by decide +kernel) rfl), (am_in 10 (by decide +kernel) rfl), by decide +kernel, by decide +kernel, by decide +kernel⟩
theorem mv_X11_pop : Cond.instanceMethod yX11_pop ∈ am_tb ∧ Cond.selects yX11_pop.cls yX11_pop yX11_pop ∈ am_tb := ⟨(am_in 925 (by decide +kernel) rfl), (am_inP 33 (by decide +kernel) rfl)⟩
theorem mc_X11_pop : ∃ T N, am_cl[9]? = some (yX11_pop.cls, T, N) := ⟨_, _, rfl⟩
abbrev mX11_worked : MI := (yX11_worked, cX11_worked, 3, (some .int))
theorem mm_X11_worked : am_M mX11_worked 3 := ⟨(am_in 929 (by decide +kernel) rfl), (am_in 10 (by decide +kernel) rfl), by decide +kernel, by decide +kernel, by decide +kernel⟩
theorem ms_X11_worked : Cond.static yX11_worked ∈ am_tb := (am_in 928 (by decide +kernel) rfl)
abbrev mX11_ran : MI := (yX11_ran, cX11_ran, 2, (some .int))
theorem mm_X11_ran : am_M mX11_ran 1 := ⟨(am_in 933 (by decide +kernel) rfl), (am_in 10 (by decide +kernel) rfl), by decide +kernel, by decide +kernel, by decide +kernel⟩
theorem mv_X11_ran : Cond.instanceMethod yX11_ran ∈ am_tb ∧ Cond.selects yX11_ran.cls yX11_ran yX11_ran ∈ am_tb := ⟨(am_in 931 (by decide +kernel) rfl), (am_in 932 (by decide +kernel) rfl)⟩
theorem mc_X11_ran : ∃ T N, am_cl[9]? = some (yX11_ran.cls, T, N) := ⟨_, _, rfl⟩
abbrev mX11_had : MI := (yX11_had, cX11_had, 3, (some .int))
theorem mm_X11_had : am_M mX11_had 2 := ⟨(am_in 937 (by decide +kernel) rfl), (am_in 10 (by decide +kernel) rfl), by decide +kernel, by decide +kernel, by decide +kernel⟩
theorem mv_X11_had : Cond.instanceMethod yX11_had ∈ am_tb ∧ Cond.selects yX11_had.cls yX11_had yX11_had ∈ am_tb := ⟨(am_in 935 (by decide +kernel) rfl), (am_in 936 (by decide +kernel) rfl)⟩
theorem mc_X11_had : ∃ T N, am_cl[9]? = some (yX11_had.cls, T, N) := ⟨_, _, rfl⟩
abbrev mX11_cost : MI := (yX11_cost, cX11_cost, 2, (some .int))
theorem mm_X11_cost : am_M mX11_cost 1 := ⟨(am_in 941 (by decide +kernel) rfl), (am_in 10 (by decide +kernel) rfl), by decide +kernel, by decide +kernel, by decide +kernel⟩
theorem mv_X11_cost : Cond.instanceMethod yX11_cost ∈ am_tb ∧ Cond.selects yX11_cost.cls yX11_cost yX11_cost ∈ am_tb := ⟨(am_in 939 (by decide +kernel) rfl), (am_in 940 (by decide +kernel) rfl)⟩
theorem mc_X11_cost : ∃ T N, am_cl[9]? = some (yX11_cost.cls, T, N) := ⟨_, _, rfl⟩
abbrev mX11_costOf : MI := (yX11_costOf, cX11_costOf, 4, (some .int))
theorem mm_X11_costOf : am_M mX11_costOf 1 := ⟨(am_in 945 (by decide +kernel) rfl), (am_in 10 (by decide +kernel) rfl), by decide +kernel, by decide +kernel, by decide +kernel⟩
theorem mv_X11_costOf : Cond.instanceMethod yX11_costOf ∈ am_tb ∧ Cond.selects yX11_costOf.cls yX11_costOf yX11_costOf ∈ am_tb := ⟨(am_in 944 (by decide +kernel) rfl), (am_inP 34 (by decide +kernel) rfl)⟩
theorem mc_X11_costOf : ∃ T N, am_cl[9]? = some (yX11_costOf.cls, T, N) := ⟨_, _, rfl⟩
abbrev mX11_choose : MI := (yX11_choose, cX11_choose, 8, (some .int))
theorem mm_X11_choose : am_M mX11_choose 2 := ⟨(am_in 949 (by decide +kernel) rfl), (am_in 10 (by decide +kernel) rfl), by decide +kernel, by decide +kernel, by decide +kernel⟩
theorem mv_X11_choose : Cond.instanceMethod yX11_choose ∈ am_tb ∧ Cond.selects yX11_choose.cls yX11_choose yX11_choose ∈ am_tb := ⟨(am_in 947 (by decide +kernel) rfl), (am_in 948 (by decide +kernel) rfl)⟩
theorem mc_X11_choose : ∃ T N, am_cl[9]? = some (yX11_choose.cls, T, N) := ⟨_, _, rfl⟩
abbrev mX11_findRows : MI := (yX11_findRows, cX11_findRows, 8, none)
theorem mm_X11_findRows : am_M mX11_findRows 0 := ⟨(am_in 953 (by decide +kernel) rfl), (am_in 10 (by decide +kernel) rfl), by decide +kernel, by decide +kernel, by decide +kernel⟩
theorem mv_X11_findRows : Cond.instanceMethod yX11_findRows ∈ am_tb ∧ Cond.selects yX11_findRows.cls yX11_findRows yX11_findRows ∈ am_tb := ⟨(am_in 952 (by decide +kernel) rfl), (am_inP 35 (by decide +kernel) rfl)⟩
theorem mc_X11_findRows : ∃ T N, am_cl[9]? = some (yX11_findRows.cls, T, N) := ⟨_, _, rfl⟩
abbrev mX11_putFound : MI := (yX11_putFound, cX11_putFound, 4, none)
theorem mm_X11_putFound : am_M mX11_putFound 1 := ⟨(am_in 957 (by decide +kernel) rfl), (am_in 10 (by decide +kernel) rfl), by decide +kernel, by decide +kernel, by decide +kernel⟩
theorem mv_X11_putFound : Cond.instanceMethod yX11_putFound ∈ am_tb ∧ Cond.selects yX11_putFound.cls yX11_putFound yX11_putFound ∈ am_tb := ⟨(am_in 956 (by decide +kernel) rfl), (am_inP 36 (by decide +kernel) rfl)⟩
theorem mc_X11_putFound : ∃ T N, am_cl[9]? = some (yX11_putFound.cls, T, N) := ⟨_, _, rfl⟩
abbrev mX11_tryRow : MI := (yX11_tryRow, cX11_tryRow, 7, none)
theorem mm_X11_tryRow : am_M mX11_tryRow 2 := ⟨(am_in 961 (by decide +kernel) rfl), (am_in 10 (by decide +kernel) rfl), by decide +kernel, by decide +kernel, by decide +kernel⟩
theorem mv_X11_tryRow : Cond.instanceMethod yX11_tryRow ∈ am_tb ∧ Cond.selects yX11_tryRow.cls yX11_tryRow yX11_tryRow ∈ am_tb := ⟨(am_in 960 (by decide +kernel) rfl), (am_inP 37 (by decide +kernel) rfl)⟩
theorem mc_X11_tryRow : ∃ T N, am_cl[9]? = some (yX11_tryRow.cls, T, N) := ⟨_, _, rfl⟩
abbrev mX11_tryNow : MI := (yX11_tryNow, cX11_tryNow, 5, none)
theorem mm_X11_tryNow : am_M mX11_tryNow 2 := ⟨(am_in 965 (by decide +kernel) rfl), (am_in 10 (by decide +kernel) rfl), by decide +kernel, by decide +kernel, by decide +kernel⟩
theorem mv_X11_tryNow : Cond.instanceMethod yX11_tryNow ∈ am_tb ∧ Cond.selects yX11_tryNow.cls yX11_tryNow yX11_tryNow ∈ am_tb := ⟨(am_in 964 (by decide +kernel) rfl), (am_inP 38 (by decide +kernel) rfl)⟩
theorem mc_X11_tryNow : ∃ T N, am_cl[9]? = some (yX11_tryNow.cls, T, N) := ⟨_, _, rfl⟩
abbrev mX11_chosen : MI := (yX11_chosen, cX11_chosen, 3, (some .int))
theorem mm_X11_chosen : am_M mX11_chosen 2 := ⟨(am_in 969 (by decide +kernel) rfl), (am_in 10 (by decide +kernel) rfl), by decide +kernel, by decide +kernel, by decide +kernel⟩
theorem mv_X11_chosen : Cond.instanceMethod yX11_chosen ∈ am_tb ∧ Cond.selects yX11_chosen.cls yX11_chosen yX11_chosen ∈ am_tb := ⟨(am_in 967 (by decide +kernel) rfl), (am_in 968 (by decide +kernel) rfl)⟩
theorem mc_X11_chosen : ∃ T N, am_cl[9]? = some (yX11_chosen.cls, T, N) := ⟨_, _, rfl⟩
abbrev mX11_take : MI := (yX11_take, cX11_take, 2, (some .int))
theorem mm_X11_take : am_M mX11_take 0 := ⟨(am_in 973 (by decide +kernel) rfl), (am_in 10 (by decide +kernel) rfl), by decide +kernel, by decide +kernel, by decide +kernel⟩
theorem mv_X11_take : Cond.instanceMethod yX11_take ∈ am_tb ∧ Cond.selects yX11_take.cls yX11_take yX11_take ∈ am_tb := ⟨(am_in 971 (by decide +kernel) rfl), (am_in 972 (by decide +kernel) rfl)⟩
theorem mc_X11_take : ∃ T N, am_cl[9]? = some (yX11_take.cls, T, N) := ⟨_, _, rfl⟩
abbrev mX11_feed : MI := (yX11_feed, cX11_feed, 4, (some .int))
theorem mm_X11_feed : am_M mX11_feed 2 := ⟨(am_in 977 (by decide +kernel) rfl), (am_in 10 (by decide +kernel) rfl), by decide +kernel, by decide +kernel, by decide +kernel⟩
theorem mv_X11_feed : Cond.instanceMethod yX11_feed ∈ am_tb ∧ Cond.selects yX11_feed.cls yX11_feed yX11_feed ∈ am_tb := ⟨(am_in 975 (by decide +kernel) rfl), (am_in 976 (by decide +kernel) rfl)⟩
theorem mc_X11_feed : ∃ T N, am_cl[9]? = some (yX11_feed.cls, T, N) := ⟨_, _, rfl⟩
abbrev mX11_read : MI := (yX11_read, cX11_read, 3, (some .int))
theorem mm_X11_read : am_M mX11_read 0 := ⟨(am_in 981 (by decide +kernel) rfl), (am_in 10 (by decide +kernel) rfl), by decide +kernel, by decide +kernel, by decide +kernel⟩
theorem mv_X11_read : Cond.instanceMethod yX11_read ∈ am_tb ∧ Cond.selects yX11_read.cls yX11_read yX11_read ∈ am_tb := ⟨(am_in 979 (by decide +kernel) rfl), (am_in 980 (by decide +kernel) rfl)⟩
theorem mc_X11_read : ∃ T N, am_cl[9]? = some (yX11_read.cls, T, N) := ⟨_, _, rfl⟩
abbrev mX11_readAll : MI := (yX11_readAll, cX11_readAll, 5, (some .boolean))
theorem mm_X11_readAll : am_M mX11_readAll 0 := ⟨(am_in 985 (by decide +kernel) rfl), (am_in 10 (by decide +kernel) rfl), by decide +kernel, by decide +kernel, by decide +kernel⟩
theorem mv_X11_readAll : Cond.instanceMethod yX11_readAll ∈ am_tb ∧ Cond.selects yX11_readAll.cls yX11_readAll yX11_readAll ∈ am_tb := ⟨(am_in 984 (by decide +kernel) rfl), (am_inP 39 (by decide +kernel) rfl)⟩
theorem mc_X11_readAll : ∃ T N, am_cl[9]? = some (yX11_readAll.cls, T, N) := ⟨_, _, rfl⟩
abbrev mX11_readOrder : MI := (yX11_readOrder, cX11_readOrder, 3, (some .boolean))
theorem mm_X11_readOrder : am_M mX11_readOrder 1 := ⟨(am_in 989 (by decide +kernel) rfl), (am_in 10 (by decide +kernel) rfl), by decide +kernel, by decide +kernel, by decide +kernel⟩
theorem mv_X11_readOrder : Cond.instanceMethod yX11_readOrder ∈ am_tb ∧ Cond.selects yX11_readOrder.cls yX11_readOrder yX11_readOrder ∈ am_tb := ⟨(am_in 988 (by decide +kernel) rfl), (am_inP 40 (by decide +kernel) rfl)⟩
theorem mc_X11_readOrder : ∃ T N, am_cl[9]? = some (yX11_readOrder.cls, T, N) := ⟨_, _, rfl⟩
abbrev mX11_count : MI := (yX11_count, cX11_count, 2, (some .int))
theorem mm_X11_count : am_M mX11_count 1 := ⟨(am_in 993 (by decide +kernel) rfl), (am_in 10 (by decide +kernel) rfl), by decide +kernel, by decide +kernel, by decide +kernel⟩
theorem mv_X11_count : Cond.instanceMethod yX11_count ∈ am_tb ∧ Cond.selects yX11_count.cls yX11_count yX11_count ∈ am_tb := ⟨(am_in 991 (by decide +kernel) rfl), (am_in 992 (by decide +kernel) rfl)⟩
theorem mc_X11_count : ∃ T N, am_cl[9]? = some (yX11_count.cls, T, N) := ⟨_, _, rfl⟩
abbrev mX11_image : MI := (yX11_image, cX11_image, 2, (some .boolean))
theorem mm_X11_image : am_M mX11_image 1 := ⟨(am_in 997 (by decide +kernel) rfl), (am_in 10 (by decide +kernel) rfl), by decide +kernel, by decide +kernel, by decide +kernel⟩
theorem mv_X11_image : Cond.instanceMethod yX11_image ∈ am_tb ∧ Cond.selects yX11_image.cls yX11_image yX11_image ∈ am_tb := ⟨(am_in 995 (by decide +kernel) rfl), (am_in 996 (by decide +kernel) rfl)⟩
theorem mc_X11_image : ∃ T N, am_cl[9]? = some (yX11_image.cls, T, N) := ⟨_, _, rfl⟩
abbrev mX11_copy : MI := (yX11_copy, cX11_copy, 3, none)
theorem mm_X11_copy : am_M mX11_copy 2 := ⟨(am_in 1001 (by decide +kernel) rfl), (am_in 10 (by decide +kernel) rfl), by decide +kernel, by decide +kernel, by decide +kernel⟩
theorem mv_X11_copy : Cond.instanceMethod yX11_copy ∈ am_tb ∧ Cond.selects yX11_copy.cls yX11_copy yX11_copy ∈ am_tb := ⟨(am_in 1000 (by decide +kernel) rfl), (am_inP 41 (by decide +kernel) rfl)⟩
theorem mc_X11_copy : ∃ T N, am_cl[9]? = some (yX11_copy.cls, T, N) := ⟨_, _, rfl⟩
abbrev mX11_move : MI := (yX11_move, cX11_move, 5, none)
theorem mm_X11_move : am_M mX11_move 4 := ⟨(am_in 1004 (by decide +kernel) rfl), (am_in 10 (by decide +kernel) rfl), by decide +kernel, by decide +kernel, by decide +kernel⟩
theorem ms_X11_move : Cond.static yX11_move ∈ am_tb := (am_in 1003 (by decide +kernel) rfl)
abbrev mX11_again : MI := (yX11_again, cX11_again, 2, (some .boolean))
theorem mm_X11_again : am_M mX11_again 1 := ⟨(am_in 1008 (by decide +kernel) rfl), (am_in 10 (by decide +kernel) rfl), by decide +kernel, by decide +kernel, by decide +kernel⟩
theorem mv_X11_again : Cond.instanceMethod yX11_again ∈ am_tb ∧ Cond.selects yX11_again.cls yX11_again yX11_again ∈ am_tb := ⟨(am_in 1006 (by decide +kernel) rfl), (am_in 1007 (by decide +kernel) rfl)⟩
theorem mc_X11_again : ∃ T N, am_cl[9]? = some (yX11_again.cls, T, N) := ⟨_, _, rfl⟩
theorem l_L_9 : Cond.methodLink RL 9 yX10_init ∈ am_tb := (am_in 18 (by decide +kernel) rfl)
theorem lo_X10_1 : Cond.methodLink RX10 1 objectInit ∈ am_tb ∧ Cond.instanceMethod objectInit ∈ am_tb ∧ Cond.code objectInit ⟨#[0xb1]⟩ 1 none ∈ am_tb := ⟨(am_in 21 (by decide +kernel) rfl), (am_in 22 (by decide +kernel) rfl), (am_in 23 (by decide +kernel) rfl)⟩
theorem l_X10_9 : Cond.methodLink RX10 9 yX7_init ∈ am_tb := (am_in 26 (by decide +kernel) rfl)
theorem lo_X7_1 : Cond.methodLink RX7 1 objectInit ∈ am_tb ∧ Cond.instanceMethod objectInit ∈ am_tb ∧ Cond.code objectInit ⟨#[0xb1]⟩ 1 none ∈ am_tb := ⟨(am_in 29 (by decide +kernel) rfl), (am_in 22 (by decide +kernel) rfl), (am_in 23 (by decide +kernel) rfl)⟩
theorem lo_X5_3 : Cond.methodLink RX5 3 objectInit ∈ am_tb ∧ Cond.instanceMethod objectInit ∈ am_tb ∧ Cond.code objectInit ⟨#[0xb1]⟩ 1 none ∈ am_tb := ⟨(am_in 37 (by decide +kernel) rfl), (am_in 22 (by decide +kernel) rfl), (am_in 23 (by decide +kernel) rfl)⟩
theorem lo_X2_5 : Cond.methodLink RX2 5 objectInit ∈ am_tb ∧ Cond.instanceMethod objectInit ∈ am_tb ∧ Cond.code objectInit ⟨#[0xb1]⟩ 1 none ∈ am_tb := ⟨(am_in 54 (by decide +kernel) rfl), (am_in 22 (by decide +kernel) rfl), (am_in 23 (by decide +kernel) rfl)⟩
theorem lo_X3_1 : Cond.methodLink RX3 1 objectInit ∈ am_tb ∧ Cond.instanceMethod objectInit ∈ am_tb ∧ Cond.code objectInit ⟨#[0xb1]⟩ 1 none ∈ am_tb := ⟨(am_in 60 (by decide +kernel) rfl), (am_in 22 (by decide +kernel) rfl), (am_in 23 (by decide +kernel) rfl)⟩
theorem lo_X6_1 : Cond.methodLink RX6 1 objectInit ∈ am_tb ∧ Cond.instanceMethod objectInit ∈ am_tb ∧ Cond.code objectInit ⟨#[0xb1]⟩ 1 none ∈ am_tb := ⟨(am_in 132 (by decide +kernel) rfl), (am_in 22 (by decide +kernel) rfl), (am_in 23 (by decide +kernel) rfl)⟩
theorem lo_X8_3 : Cond.methodLink RX8 3 objectInit ∈ am_tb ∧ Cond.instanceMethod objectInit ∈ am_tb ∧ Cond.code objectInit ⟨#[0xb1]⟩ 1 none ∈ am_tb := ⟨(am_in 175 (by decide +kernel) rfl), (am_in 22 (by decide +kernel) rfl), (am_in 23 (by decide +kernel) rfl)⟩
theorem lo_X9_3 : Cond.methodLink RX9 3 objectInit ∈ am_tb ∧ Cond.instanceMethod objectInit ∈ am_tb ∧ Cond.code objectInit ⟨#[0xb1]⟩ 1 none ∈ am_tb := ⟨(am_in 230 (by decide +kernel) rfl), (am_in 22 (by decide +kernel) rfl), (am_in 23 (by decide +kernel) rfl)⟩
theorem lo_X0_7 : Cond.methodLink RX0 7 objectInit ∈ am_tb ∧ Cond.instanceMethod objectInit ∈ am_tb ∧ Cond.code objectInit ⟨#[0xb1]⟩ 1 none ∈ am_tb := ⟨(am_in 248 (by decide +kernel) rfl), (am_in 22 (by decide +kernel) rfl), (am_in 23 (by decide +kernel) rfl)⟩
theorem l_L_13 : Cond.methodLink RL 13 yX10_program ∈ am_tb := (am_in 308 (by decide +kernel) rfl)
theorem l_X10_42 : Cond.methodLink RX10 42 yX3_clear ∈ am_tb := (am_in 312 (by decide +kernel) rfl)
theorem l_X3_26 : Cond.methodLink RX3 26 yJ7_fill_53178 ∈ am_tb := (am_in 316 (by decide +kernel) rfl)
theorem l_X3_32 : Cond.methodLink RX3 32 yX3_forgetRun ∈ am_tb := (am_in 319 (by decide +kernel) rfl)
theorem l_L_18 : Cond.methodLink RL 18 yX10_order ∈ am_tb := (am_in 323 (by decide +kernel) rfl)
theorem l_X10_47 : Cond.methodLink RX10 47 yX7_hasProgram ∈ am_tb := (am_in 327 (by decide +kernel) rfl)
theorem l_X10_51 : Cond.methodLink RX10 51 yX3_append ∈ am_tb := (am_in 331 (by decide +kernel) rfl)
theorem l_X3_35 : Cond.methodLink RX3 35 yX1_isOne ∈ am_tb := (am_in 335 (by decide +kernel) rfl)
theorem l_X3_41 : Cond.methodLink RX3 41 yX1_fits ∈ am_tb := (am_in 338 (by decide +kernel) rfl)
theorem l_X3_45 : Cond.methodLink RX3 45 yX1_leads ∈ am_tb := (am_in 345 (by decide +kernel) rfl)
theorem l_X10_55 : Cond.methodLink RX10 55 yX3_forgetRun ∈ am_tb := (am_in 348 (by decide +kernel) rfl)
theorem l_L_23 : Cond.methodLink RL 23 yX10_change ∈ am_tb := (am_in 349 (by decide +kernel) rfl)
theorem l_X10_61 : Cond.methodLink RX10 61 yX7_hasOrder ∈ am_tb := (am_in 353 (by decide +kernel) rfl)
theorem l_X7_51 : Cond.methodLink RX7 51 yX7_hasProgram ∈ am_tb := (am_in 357 (by decide +kernel) rfl)
theorem l_X7_55 : Cond.methodLink RX7 55 yX3_has ∈ am_tb := (am_in 358 (by decide +kernel) rfl)
theorem l_X10_64 : Cond.methodLink RX10 64 yX3_replace ∈ am_tb := (am_in 362 (by decide +kernel) rfl)
theorem l_X3_48 : Cond.methodLink RX3 48 yX1_hasArgument ∈ am_tb := (am_in 366 (by decide +kernel) rfl)
theorem l_L_28 : Cond.methodLink RL 28 yX10_tell ∈ am_tb := (am_in 369 (by decide +kernel) rfl)
theorem l_X10_77 : Cond.methodLink RX10 77 yX3_isLedTo ∈ am_tb := (am_in 373 (by decide +kernel) rfl)
theorem l_L_32 : Cond.methodLink RL 32 yX10_join ∈ am_tb := (am_in 377 (by decide +kernel) rfl)
theorem l_X10_80 : Cond.methodLink RX10 80 yX4_of ∈ am_tb := (am_in 381 (by decide +kernel) rfl)
theorem l_X4_9 : Cond.methodLink RX4 9 yX1_isOne ∈ am_tb := (am_in 384 (by decide +kernel) rfl)
theorem l_X4_15 : Cond.methodLink RX4 15 yX1_isLastAlone ∈ am_tb := (am_in 385 (by decide +kernel) rfl)
theorem l_X1_16 : Cond.methodLink RX1 16 yX1_leads ∈ am_tb := (am_in 388 (by decide +kernel) rfl)
theorem l_X4_18 : Cond.methodLink RX4 18 yX4_with ∈ am_tb := (am_in 389 (by decide +kernel) rfl)
theorem l_X10_90 : Cond.methodLink RX10 90 yX5_indexOf ∈ am_tb := (am_in 392 (by decide +kernel) rfl)
theorem l_X10_96 : Cond.methodLink RX10 96 yX5_append ∈ am_tb := (am_in 396 (by decide +kernel) rfl)
theorem l_L_37 : Cond.methodLink RL 37 yX10_part ∈ am_tb := (am_in 400 (by decide +kernel) rfl)
theorem l_L_41 : Cond.methodLink RL 41 yX10_joined ∈ am_tb := (am_in 404 (by decide +kernel) rfl)
theorem l_X10_99 : Cond.methodLink RX10 99 yX5_kind ∈ am_tb := (am_in 408 (by decide +kernel) rfl)
theorem l_X5_21 : Cond.methodLink RX5 21 yX4_kind ∈ am_tb := (am_in 412 (by decide +kernel) rfl)
theorem l_L_46 : Cond.methodLink RL 46 yX10_pack ∈ am_tb := (am_in 415 (by decide +kernel) rfl)
theorem l_X10_103 : Cond.methodLink RX10 103 yX9_measure ∈ am_tb := (am_in 419 (by decide +kernel) rfl)
theorem l_X9_27 : Cond.methodLink RX9 27 yX9_begin ∈ am_tb := (am_in 423 (by decide +kernel) rfl)
theorem l_X9_38 : Cond.methodLink RX9 38 yX3_reach ∈ am_tb := (am_in 427 (by decide +kernel) rfl)
theorem l_X3_53 : Cond.methodLink RX3 53 yX3_isLedTo ∈ am_tb := (am_in 431 (by decide +kernel) rfl)
theorem l_X3_56 : Cond.methodLink RX3 56 yX1_isLastAlone ∈ am_tb := (am_in 432 (by decide +kernel) rfl)
theorem l_X9_42 : Cond.methodLink RX9 42 yX4_with ∈ am_tb := (am_in 433 (by decide +kernel) rfl)
theorem l_X9_48 : Cond.methodLink RX9 48 yX5_indexOf ∈ am_tb := (am_in 434 (by decide +kernel) rfl)
theorem l_X9_31 : Cond.methodLink RX9 31 yX3_weight ∈ am_tb := (am_in 435 (by decide +kernel) rfl)
theorem l_X10_111 : Cond.methodLink RX10 111 yX2_make ∈ am_tb := (am_in 439 (by decide +kernel) rfl)
theorem l_X2_45 : Cond.methodLink RX2 45 yX3_copyFrom ∈ am_tb := (am_in 443 (by decide +kernel) rfl)
theorem la_X3_59 : Cond.methodLink RX3 59 arraycopyName ∈ am_tb ∧ Cond.native arraycopyName ∈ am_tb ∧ Cond.static arraycopyName ∈ am_tb ∧ Cond.initialized "java/lang/System" ∈ am_tb := ⟨(am_in 447 (by decide +kernel) rfl), (am_in 449 (by decide +kernel) rfl), (am_in 448 (by decide +kernel) rfl), (am_in 14 (by decide +kernel) rfl)⟩
theorem l_X2_56 : Cond.methodLink RX2 56 yX2_beginCode ∈ am_tb := (am_in 450 (by decide +kernel) rfl)
theorem l_X2_72 : Cond.methodLink RX2 72 yX2_write ∈ am_tb := (am_in 454 (by decide +kernel) rfl)
theorem l_X2_63 : Cond.methodLink RX2 63 yX1_hasArgument ∈ am_tb := (am_in 458 (by decide +kernel) rfl)
theorem l_L_51 : Cond.methodLink RL 51 yX10_code ∈ am_tb := (am_in 459 (by decide +kernel) rfl)
theorem l_X10_120 : Cond.methodLink RX10 120 yX2_hasCode ∈ am_tb := (am_in 463 (by decide +kernel) rfl)
theorem l_L_55 : Cond.methodLink RL 55 yX10_bytes ∈ am_tb := (am_in 467 (by decide +kernel) rfl)
theorem l_X10_132 : Cond.methodLink RX10 132 yX2_hasByte ∈ am_tb := (am_in 471 (by decide +kernel) rfl)
theorem l_L_59 : Cond.methodLink RL 59 yX10_run ∈ am_tb := (am_in 475 (by decide +kernel) rfl)
theorem l_X10_152 : Cond.methodLink RX10 152 yX6_follow ∈ am_tb := (am_in 479 (by decide +kernel) rfl)
theorem l_X6_19 : Cond.methodLink RX6 19 yX6_clear ∈ am_tb := (am_in 483 (by decide +kernel) rfl)
theorem l_X6_61 : Cond.methodLink RX6 61 yJ7_fill_53178 ∈ am_tb := (am_in 487 (by decide +kernel) rfl)
theorem l_X6_22 : Cond.methodLink RX6 22 yX3_forgetRun ∈ am_tb := (am_in 488 (by decide +kernel) rfl)
theorem l_X6_27 : Cond.methodLink RX6 27 yX6_endAhead ∈ am_tb := (am_in 489 (by decide +kernel) rfl)
theorem l_X6_67 : Cond.methodLink RX6 67 yX3_has ∈ am_tb := (am_in 493 (by decide +kernel) rfl)
theorem l_X6_35 : Cond.methodLink RX6 35 yX2_beginsAt ∈ am_tb := (am_in 494 (by decide +kernel) rfl)
theorem l_X6_44 : Cond.methodLink RX6 44 yX6_tryOrder ∈ am_tb := (am_in 498 (by decide +kernel) rfl)
theorem l_X6_87 : Cond.methodLink RX6 87 yX6_carryOut ∈ am_tb := (am_in 506 (by decide +kernel) rfl)
theorem l_X6_91 : Cond.methodLink RX6 91 yX6_lay ∈ am_tb := (am_in 510 (by decide +kernel) rfl)
theorem l_X6_95 : Cond.methodLink RX6 95 yX6_layOneForTwo ∈ am_tb := (am_in 514 (by decide +kernel) rfl)
theorem l_X6_101 : Cond.methodLink RX6 101 yX6_lift ∈ am_tb := (am_in 518 (by decide +kernel) rfl)
theorem l_X6_98 : Cond.methodLink RX6 98 yX6_turnUpperTwo ∈ am_tb := (am_in 522 (by decide +kernel) rfl)
theorem l_L_64 : Cond.methodLink RL 64 yX10_ran ∈ am_tb := (am_in 526 (by decide +kernel) rfl)
theorem l_L_68 : Cond.methodLink RL 68 yX10_had ∈ am_tb := (am_in 530 (by decide +kernel) rfl)
theorem l_X10_175 : Cond.methodLink RX10 175 yX10_numberOf ∈ am_tb := (am_in 534 (by decide +kernel) rfl)
theorem l_L_72 : Cond.methodLink RL 72 yX10_cost ∈ am_tb := (am_in 537 (by decide +kernel) rfl)
theorem l_L_77 : Cond.methodLink RL 77 yX10_choose ∈ am_tb := (am_in 541 (by decide +kernel) rfl)
theorem l_X10_188 : Cond.methodLink RX10 188 yX0_search ∈ am_tb := (am_in 545 (by decide +kernel) rfl)
theorem l_X0_46 : Cond.methodLink RX0 46 yX0_gather ∈ am_tb := (am_in 549 (by decide +kernel) rfl)
theorem l_X0_93 : Cond.methodLink RX0 93 yX3_weight ∈ am_tb := (am_in 553 (by decide +kernel) rfl)
theorem l_X0_97 : Cond.methodLink RX0 97 yX0_gatherAt ∈ am_tb := (am_in 554 (by decide +kernel) rfl)
theorem l_X0_101 : Cond.methodLink RX0 101 yX3_reach ∈ am_tb := (am_in 558 (by decide +kernel) rfl)
theorem l_X0_108 : Cond.methodLink RX0 108 yX4_with ∈ am_tb := (am_in 559 (by decide +kernel) rfl)
theorem l_X0_114 : Cond.methodLink RX0 114 yX0_addStand ∈ am_tb := (am_in 560 (by decide +kernel) rfl)
theorem l_X0_118 : Cond.methodLink RX0 118 yX0_findRow ∈ am_tb := (am_in 564 (by decide +kernel) rfl)
theorem la_X0_121 : Cond.methodLink RX0 121 arraycopyName ∈ am_tb ∧ Cond.native arraycopyName ∈ am_tb ∧ Cond.static arraycopyName ∈ am_tb ∧ Cond.initialized "java/lang/System" ∈ am_tb := ⟨(am_in 568 (by decide +kernel) rfl), (am_in 449 (by decide +kernel) rfl), (am_in 448 (by decide +kernel) rfl), (am_in 14 (by decide +kernel) rfl)⟩
theorem l_X0_50 : Cond.methodLink RX0 50 yX0_chooseOne ∈ am_tb := (am_in 569 (by decide +kernel) rfl)
theorem l_X0_127 : Cond.methodLink RX0 127 yX0_mostSaved ∈ am_tb := (am_in 573 (by decide +kernel) rfl)
theorem l_X0_140 : Cond.methodLink RX0 140 yX0_savedFrom ∈ am_tb := (am_in 577 (by decide +kernel) rfl)
theorem lm_X0_131 : Cond.methodLink RX0 131 Lib.Math.max.name ∈ am_tb ∧ Cond.static Lib.Math.max.name ∈ am_tb ∧ Cond.initialized "java/lang/Math" ∈ am_tb ∧ Cond.code Lib.Math.max.name Lib.Math.max.code 2 (some .int) ∈ am_tb := ⟨(am_in 581 (by decide +kernel) rfl), (am_in 582 (by decide +kernel) rfl), (am_in 15 (by decide +kernel) rfl), (am_in 583 (by decide +kernel) rfl)⟩
theorem l_X0_53 : Cond.methodLink RX0 53 yX0_chooseTwo ∈ am_tb := (am_in 584 (by decide +kernel) rfl)
theorem l_X0_136 : Cond.methodLink RX0 136 yX0_tryTwo ∈ am_tb := (am_in 588 (by decide +kernel) rfl)
theorem l_X0_69 : Cond.methodLink RX0 69 yX5_append ∈ am_tb := (am_in 592 (by decide +kernel) rfl)
theorem l_L_82 : Cond.methodLink RL 82 yX10_chosen ∈ am_tb := (am_in 593 (by decide +kernel) rfl)
theorem l_L_86 : Cond.methodLink RL 86 yX10_take ∈ am_tb := (am_in 597 (by decide +kernel) rfl)
theorem l_X10_195 : Cond.methodLink RX10 195 yX5_copyFrom ∈ am_tb := (am_in 601 (by decide +kernel) rfl)
theorem la_X5_25 : Cond.methodLink RX5 25 arraycopyName ∈ am_tb ∧ Cond.native arraycopyName ∈ am_tb ∧ Cond.static arraycopyName ∈ am_tb ∧ Cond.initialized "java/lang/System" ∈ am_tb := ⟨(am_in 605 (by decide +kernel) rfl), (am_in 449 (by decide +kernel) rfl), (am_in 448 (by decide +kernel) rfl), (am_in 14 (by decide +kernel) rfl)⟩
theorem l_L_90 : Cond.methodLink RL 90 yX10_feed ∈ am_tb := (am_in 606 (by decide +kernel) rfl)
theorem l_X10_203 : Cond.methodLink RX10 203 yX8_append ∈ am_tb := (am_in 610 (by decide +kernel) rfl)
theorem l_L_94 : Cond.methodLink RL 94 yX10_read ∈ am_tb := (am_in 614 (by decide +kernel) rfl)
theorem l_X10_207 : Cond.methodLink RX10 207 yX8_readInto ∈ am_tb := (am_in 618 (by decide +kernel) rfl)
theorem l_X8_19 : Cond.methodLink RX8 19 yX3_clear ∈ am_tb := (am_in 622 (by decide +kernel) rfl)
theorem l_X8_27 : Cond.methodLink RX8 27 yX8_readCode ∈ am_tb := (am_in 623 (by decide +kernel) rfl)
theorem l_X8_31 : Cond.methodLink RX8 31 yX1_isOne ∈ am_tb := (am_in 627 (by decide +kernel) rfl)
theorem l_X8_37 : Cond.methodLink RX8 37 yX8_readOrder ∈ am_tb := (am_in 628 (by decide +kernel) rfl)
theorem l_X8_50 : Cond.methodLink RX8 50 yX1_hasArgument ∈ am_tb := (am_in 632 (by decide +kernel) rfl)
theorem l_X8_53 : Cond.methodLink RX8 53 yX3_append ∈ am_tb := (am_in 633 (by decide +kernel) rfl)
theorem l_X8_46 : Cond.methodLink RX8 46 yX5_kind ∈ am_tb := (am_in 634 (by decide +kernel) rfl)
theorem l_L_98 : Cond.methodLink RL 98 yX10_count ∈ am_tb := (am_in 635 (by decide +kernel) rfl)
theorem l_L_102 : Cond.methodLink RL 102 yX10_image ∈ am_tb := (am_in 639 (by decide +kernel) rfl)
theorem l_X10_214 : Cond.methodLink RX10 214 yX7_copyFrom ∈ am_tb := (am_in 643 (by decide +kernel) rfl)
theorem l_X7_58 : Cond.methodLink RX7 58 yX3_copyFrom ∈ am_tb := (am_in 647 (by decide +kernel) rfl)
theorem l_X7_62 : Cond.methodLink RX7 62 yX5_copyFrom ∈ am_tb := (am_in 648 (by decide +kernel) rfl)
theorem l_X7_65 : Cond.methodLink RX7 65 yX2_copyFrom ∈ am_tb := (am_in 649 (by decide +kernel) rfl)
theorem la_X2_76 : Cond.methodLink RX2 76 arraycopyName ∈ am_tb ∧ Cond.native arraycopyName ∈ am_tb ∧ Cond.static arraycopyName ∈ am_tb ∧ Cond.initialized "java/lang/System" ∈ am_tb := ⟨(am_in 653 (by decide +kernel) rfl), (am_in 449 (by decide +kernel) rfl), (am_in 448 (by decide +kernel) rfl), (am_in 14 (by decide +kernel) rfl)⟩
theorem l_X7_68 : Cond.methodLink RX7 68 yX6_copyFrom ∈ am_tb := (am_in 654 (by decide +kernel) rfl)
theorem la_X6_105 : Cond.methodLink RX6 105 arraycopyName ∈ am_tb ∧ Cond.native arraycopyName ∈ am_tb ∧ Cond.static arraycopyName ∈ am_tb ∧ Cond.initialized "java/lang/System" ∈ am_tb := ⟨(am_in 658 (by decide +kernel) rfl), (am_in 449 (by decide +kernel) rfl), (am_in 448 (by decide +kernel) rfl), (am_in 14 (by decide +kernel) rfl)⟩
theorem l_X7_75 : Cond.methodLink RX7 75 yX8_copyFrom ∈ am_tb := (am_in 659 (by decide +kernel) rfl)
theorem la_X8_57 : Cond.methodLink RX8 57 arraycopyName ∈ am_tb ∧ Cond.native arraycopyName ∈ am_tb ∧ Cond.static arraycopyName ∈ am_tb ∧ Cond.initialized "java/lang/System" ∈ am_tb := ⟨(am_in 663 (by decide +kernel) rfl), (am_in 449 (by decide +kernel) rfl), (am_in 448 (by decide +kernel) rfl), (am_in 14 (by decide +kernel) rfl)⟩
theorem l_L_107 : Cond.methodLink RL 107 yX10_again ∈ am_tb := (am_in 664 (by decide +kernel) rfl)
theorem l_L_12 : Cond.methodLink RL 12 yX11_init ∈ am_tb := (am_in 670 (by decide +kernel) rfl)
theorem lo_X11_1 : Cond.methodLink RX11 1 objectInit ∈ am_tb ∧ Cond.instanceMethod objectInit ∈ am_tb ∧ Cond.code objectInit ⟨#[0xb1]⟩ 1 none ∈ am_tb := ⟨(am_in 673 (by decide +kernel) rfl), (am_in 22 (by decide +kernel) rfl), (am_in 23 (by decide +kernel) rfl)⟩
theorem l_L_17 : Cond.methodLink RL 17 yX11_program ∈ am_tb := (am_in 820 (by decide +kernel) rfl)
theorem l_X11_146 : Cond.methodLink RX11 146 yX11_forget ∈ am_tb := (am_in 824 (by decide +kernel) rfl)
theorem l_L_22 : Cond.methodLink RL 22 yX11_order ∈ am_tb := (am_in 828 (by decide +kernel) rfl)
theorem l_X11_150 : Cond.methodLink RX11 150 yX11_isProgram ∈ am_tb := (am_in 832 (by decide +kernel) rfl)
theorem l_X11_142 : Cond.methodLink RX11 142 yX11_in ∈ am_tb := (am_in 836 (by decide +kernel) rfl)
theorem l_X11_154 : Cond.methodLink RX11 154 yX11_isArgument ∈ am_tb := (am_in 839 (by decide +kernel) rfl)
theorem l_L_27 : Cond.methodLink RL 27 yX11_change ∈ am_tb := (am_in 842 (by decide +kernel) rfl)
theorem l_X11_158 : Cond.methodLink RX11 158 yX11_hasArgument ∈ am_tb := (am_in 846 (by decide +kernel) rfl)
theorem l_L_31 : Cond.methodLink RL 31 yX11_tell ∈ am_tb := (am_in 849 (by decide +kernel) rfl)
theorem l_X11_161 : Cond.methodLink RX11 161 yX11_isLed ∈ am_tb := (am_in 853 (by decide +kernel) rfl)
theorem l_L_36 : Cond.methodLink RL 36 yX11_join ∈ am_tb := (am_in 857 (by decide +kernel) rfl)
theorem l_X11_164 : Cond.methodLink RX11 164 yX11_isLast ∈ am_tb := (am_in 861 (by decide +kernel) rfl)
theorem l_L_40 : Cond.methodLink RL 40 yX11_part ∈ am_tb := (am_in 864 (by decide +kernel) rfl)
theorem l_L_45 : Cond.methodLink RL 45 yX11_joined ∈ am_tb := (am_in 868 (by decide +kernel) rfl)
theorem l_L_50 : Cond.methodLink RL 50 yX11_pack ∈ am_tb := (am_in 872 (by decide +kernel) rfl)
theorem l_X11_180 : Cond.methodLink RX11 180 yX11_takeJoins ∈ am_tb := (am_in 876 (by decide +kernel) rfl)
theorem l_X11_176 : Cond.methodLink RX11 176 yX11_findLeast ∈ am_tb := (am_in 880 (by decide +kernel) rfl)
theorem l_X11_167 : Cond.methodLink RX11 167 yX11_readLed ∈ am_tb := (am_in 884 (by decide +kernel) rfl)
theorem l_X11_173 : Cond.methodLink RX11 173 yX11_stands ∈ am_tb := (am_in 888 (by decide +kernel) rfl)
theorem l_X11_183 : Cond.methodLink RX11 183 yX11_putByte ∈ am_tb := (am_in 892 (by decide +kernel) rfl)
theorem l_L_54 : Cond.methodLink RL 54 yX11_code ∈ am_tb := (am_in 896 (by decide +kernel) rfl)
theorem l_L_58 : Cond.methodLink RL 58 yX11_bytes ∈ am_tb := (am_in 900 (by decide +kernel) rfl)
theorem l_L_63 : Cond.methodLink RL 63 yX11_run ∈ am_tb := (am_in 904 (by decide +kernel) rfl)
theorem l_X11_204 : Cond.methodLink RX11 204 yX11_runs ∈ am_tb := (am_in 908 (by decide +kernel) rfl)
theorem l_X11_197 : Cond.methodLink RX11 197 yX11_wants ∈ am_tb := (am_in 912 (by decide +kernel) rfl)
theorem l_X11_201 : Cond.methodLink RX11 201 yX11_does ∈ am_tb := (am_in 915 (by decide +kernel) rfl)
theorem l_X11_186 : Cond.methodLink RX11 186 yX11_push ∈ am_tb := (am_in 919 (by decide +kernel) rfl)
theorem l_X11_189 : Cond.methodLink RX11 189 yX11_pop ∈ am_tb := (am_in 923 (by decide +kernel) rfl)
theorem l_X11_193 : Cond.methodLink RX11 193 yX11_worked ∈ am_tb := (am_in 927 (by decide +kernel) rfl)
theorem l_L_67 : Cond.methodLink RL 67 yX11_ran ∈ am_tb := (am_in 930 (by decide +kernel) rfl)
theorem l_L_71 : Cond.methodLink RL 71 yX11_had ∈ am_tb := (am_in 934 (by decide +kernel) rfl)
theorem l_L_76 : Cond.methodLink RL 76 yX11_cost ∈ am_tb := (am_in 938 (by decide +kernel) rfl)
theorem l_X11_208 : Cond.methodLink RX11 208 yX11_costOf ∈ am_tb := (am_in 942 (by decide +kernel) rfl)
theorem l_L_81 : Cond.methodLink RL 81 yX11_choose ∈ am_tb := (am_in 946 (by decide +kernel) rfl)
theorem l_X11_226 : Cond.methodLink RX11 226 yX11_findRows ∈ am_tb := (am_in 950 (by decide +kernel) rfl)
theorem l_X11_214 : Cond.methodLink RX11 214 yX11_putFound ∈ am_tb := (am_in 954 (by decide +kernel) rfl)
theorem l_X11_217 : Cond.methodLink RX11 217 yX11_tryRow ∈ am_tb := (am_in 958 (by decide +kernel) rfl)
theorem l_X11_229 : Cond.methodLink RX11 229 yX11_tryNow ∈ am_tb := (am_in 962 (by decide +kernel) rfl)
theorem l_L_85 : Cond.methodLink RL 85 yX11_chosen ∈ am_tb := (am_in 966 (by decide +kernel) rfl)
theorem l_L_89 : Cond.methodLink RL 89 yX11_take ∈ am_tb := (am_in 970 (by decide +kernel) rfl)
theorem l_L_93 : Cond.methodLink RL 93 yX11_feed ∈ am_tb := (am_in 974 (by decide +kernel) rfl)
theorem l_L_97 : Cond.methodLink RL 97 yX11_read ∈ am_tb := (am_in 978 (by decide +kernel) rfl)
theorem l_X11_241 : Cond.methodLink RX11 241 yX11_readAll ∈ am_tb := (am_in 982 (by decide +kernel) rfl)
theorem l_X11_238 : Cond.methodLink RX11 238 yX11_readOrder ∈ am_tb := (am_in 986 (by decide +kernel) rfl)
theorem l_L_101 : Cond.methodLink RL 101 yX11_count ∈ am_tb := (am_in 990 (by decide +kernel) rfl)
theorem l_L_106 : Cond.methodLink RL 106 yX11_image ∈ am_tb := (am_in 994 (by decide +kernel) rfl)
theorem l_X11_245 : Cond.methodLink RX11 245 yX11_copy ∈ am_tb := (am_in 998 (by decide +kernel) rfl)
theorem l_X11_138 : Cond.methodLink RX11 138 yX11_move ∈ am_tb := (am_in 1002 (by decide +kernel) rfl)
theorem l_L_110 : Cond.methodLink RL 110 yX11_again ∈ am_tb := (am_in 1005 (by decide +kernel) rfl)
theorem k_L_7 : am_K RL 7 8 4 := ⟨RX10, TX10, rfl, wi_8, (am_in 16 (by decide +kernel) rfl), (am_in 17 (by decide +kernel) rfl), (am_in 1 (by decide +kernel) rfl), tyX10_ok, by decide +kernel⟩
theorem kl_L_7 : Cond.classLink RL 7 RX10 ∈ am_tb := (am_in 16 (by decide +kernel) rfl)
theorem k_X10_7 : am_K RX10 7 5 8 := ⟨RX7, TX7, rfl, wi_5, (am_in 24 (by decide +kernel) rfl), (am_in 25 (by decide +kernel) rfl), (am_in 2 (by decide +kernel) rfl), tyX7_ok, by decide +kernel⟩
theorem kl_X10_7 : Cond.classLink RX10 7 RX7 ∈ am_tb := (am_in 24 (by decide +kernel) rfl)
theorem k_X7_9 : am_K RX7 9 2 5 := ⟨RX3, TX3, rfl, wi_2, (am_in 30 (by decide +kernel) rfl), (am_in 56 (by decide +kernel) rfl), (am_in 5 (by decide +kernel) rfl), tyX3_ok, by decide +kernel⟩
theorem kl_X7_9 : Cond.classLink RX7 9 RX3 ∈ am_tb := (am_in 30 (by decide +kernel) rfl)
theorem k_X7_15 : am_K RX7 15 3 2 := ⟨RX5, TX5, rfl, wi_3, (am_in 32 (by decide +kernel) rfl), (am_in 33 (by decide +kernel) rfl), (am_in 3 (by decide +kernel) rfl), tyX5_ok, by decide +kernel⟩
theorem kl_X7_15 : Cond.classLink RX7 15 RX5 ∈ am_tb := (am_in 32 (by decide +kernel) rfl)
theorem k_X7_22 : am_K RX7 22 1 9 := ⟨RX2, TX2, rfl, wi_1, (am_in 49 (by decide +kernel) rfl), (am_in 50 (by decide +kernel) rfl), (am_in 4 (by decide +kernel) rfl), tyX2_ok, by decide +kernel⟩
theorem kl_X7_22 : Cond.classLink RX7 22 RX2 ∈ am_tb := (am_in 49 (by decide +kernel) rfl)
theorem k_X2_1 : am_K RX2 1 2 5 := ⟨RX3, TX3, rfl, wi_2, (am_in 55 (by decide +kernel) rfl), (am_in 56 (by decide +kernel) rfl), (am_in 5 (by decide +kernel) rfl), tyX3_ok, by decide +kernel⟩
theorem kl_X2_1 : Cond.classLink RX2 1 RX3 ∈ am_tb := (am_in 55 (by decide +kernel) rfl)
theorem k_X7_29 : am_K RX7 29 4 9 := ⟨RX6, TX6, rfl, wi_4, (am_in 127 (by decide +kernel) rfl), (am_in 128 (by decide +kernel) rfl), (am_in 6 (by decide +kernel) rfl), tyX6_ok, by decide +kernel⟩
theorem kl_X7_29 : Cond.classLink RX7 29 RX6 ∈ am_tb := (am_in 127 (by decide +kernel) rfl)
theorem k_X7_39 : am_K RX7 39 6 3 := ⟨RX8, TX8, rfl, wi_6, (am_in 170 (by decide +kernel) rfl), (am_in 171 (by decide +kernel) rfl), (am_in 7 (by decide +kernel) rfl), tyX8_ok, by decide +kernel⟩
theorem kl_X7_39 : Cond.classLink RX7 39 RX8 ∈ am_tb := (am_in 170 (by decide +kernel) rfl)
theorem k_X10_20 : am_K RX10 20 7 3 := ⟨RX9, TX9, rfl, wi_7, (am_in 225 (by decide +kernel) rfl), (am_in 226 (by decide +kernel) rfl), (am_in 8 (by decide +kernel) rfl), tyX9_ok, by decide +kernel⟩
theorem kl_X10_20 : Cond.classLink RX10 20 RX9 ∈ am_tb := (am_in 225 (by decide +kernel) rfl)
theorem k_X10_27 : am_K RX10 27 0 15 := ⟨RX0, TX0, rfl, wi_0, (am_in 243 (by decide +kernel) rfl), (am_in 244 (by decide +kernel) rfl), (am_in 9 (by decide +kernel) rfl), tyX0_ok, by decide +kernel⟩
theorem kl_X10_27 : Cond.classLink RX10 27 RX0 ∈ am_tb := (am_in 243 (by decide +kernel) rfl)
theorem k_L_10 : am_K RL 10 9 48 := ⟨RX11, TX11, rfl, wi_9, (am_in 668 (by decide +kernel) rfl), (am_in 669 (by decide +kernel) rfl), (am_in 10 (by decide +kernel) rfl), tyX11_ok, by decide +kernel⟩
theorem kl_L_10 : Cond.classLink RL 10 RX11 ∈ am_tb := (am_in 668 (by decide +kernel) rfl)
theorem w_arrI : Cond.arrayClass .int ∈ am_tb := (am_in 48 (by decide +kernel) rfl)
theorem w_arrZ : Cond.arrayClass .boolean ∈ am_tb := (am_in 819 (by decide +kernel) rfl)
end
section
/-! how the bytes of each method read -/
theorem dX11_init_0 : decode cX11_init 0 = .ok (.aload_n 0, 1) := by decide +kernel
theorem dX11_init_1 : decode cX11_init 1 = .ok (.invokespecial 1, 3) := by decide +kernel
theorem dX11_init_4 : decode cX11_init 4 = .ok (.aload_n 0, 1) := by decide +kernel
theorem dX11_init_5 : decode cX11_init 5 = .ok (.iconst 4, 1) := by decide +kernel
theorem dX11_init_6 : decode cX11_init 6 = .ok (.newarray .int, 2) := by decide +kernel
theorem dX11_init_8 : decode cX11_init 8 = .ok (.putfield 7, 3) := by decide +kernel
theorem dX11_init_11 : decode cX11_init 11 = .ok (.aload_n 0, 1) := by decide +kernel
theorem dX11_init_12 : decode cX11_init 12 = .ok (.bipush 12, 2) := by decide +kernel
theorem dX11_init_14 : decode cX11_init 14 = .ok (.newarray .int, 2) := by decide +kernel
theorem dX11_init_16 : decode cX11_init 16 = .ok (.putfield 13, 3) := by decide +kernel
theorem dX11_init_19 : decode cX11_init 19 = .ok (.aload_n 0, 1) := by decide +kernel
theorem dX11_init_20 : decode cX11_init 20 = .ok (.sipush 480, 3) := by decide +kernel
theorem dX11_init_23 : decode cX11_init 23 = .ok (.newarray .int, 2) := by decide +kernel
theorem dX11_init_25 : decode cX11_init 25 = .ok (.putfield 16, 3) := by decide +kernel
theorem dX11_init_28 : decode cX11_init 28 = .ok (.aload_n 0, 1) := by decide +kernel
theorem dX11_init_29 : decode cX11_init 29 = .ok (.sipush 480, 3) := by decide +kernel
theorem dX11_init_32 : decode cX11_init 32 = .ok (.newarray .int, 2) := by decide +kernel
theorem dX11_init_34 : decode cX11_init 34 = .ok (.putfield 19, 3) := by decide +kernel
theorem dX11_init_37 : decode cX11_init 37 = .ok (.aload_n 0, 1) := by decide +kernel
theorem dX11_init_38 : decode cX11_init 38 = .ok (.sipush 480, 3) := by decide +kernel
theorem dX11_init_41 : decode cX11_init 41 = .ok (.newarray .int, 2) := by decide +kernel
theorem dX11_init_43 : decode cX11_init 43 = .ok (.putfield 22, 3) := by decide +kernel
theorem dX11_init_46 : decode cX11_init 46 = .ok (.aload_n 0, 1) := by decide +kernel
theorem dX11_init_47 : decode cX11_init 47 = .ok (.iconst 4, 1) := by decide +kernel
theorem dX11_init_48 : decode cX11_init 48 = .ok (.newarray .int, 2) := by decide +kernel
theorem dX11_init_50 : decode cX11_init 50 = .ok (.putfield 25, 3) := by decide +kernel
theorem dX11_init_53 : decode cX11_init 53 = .ok (.aload_n 0, 1) := by decide +kernel
theorem dX11_init_54 : decode cX11_init 54 = .ok (.bipush 120, 2) := by decide +kernel
theorem dX11_init_56 : decode cX11_init 56 = .ok (.newarray .int, 2) := by decide +kernel
theorem dX11_init_58 : decode cX11_init 58 = .ok (.putfield 28, 3) := by decide +kernel
theorem dX11_init_61 : decode cX11_init 61 = .ok (.aload_n 0, 1) := by decide +kernel
theorem dX11_init_62 : decode cX11_init 62 = .ok (.iconst 4, 1) := by decide +kernel
theorem dX11_init_63 : decode cX11_init 63 = .ok (.newarray .int, 2) := by decide +kernel
theorem dX11_init_65 : decode cX11_init 65 = .ok (.putfield 31, 3) := by decide +kernel
theorem dX11_init_68 : decode cX11_init 68 = .ok (.aload_n 0, 1) := by decide +kernel
theorem dX11_init_69 : decode cX11_init 69 = .ok (.sipush 160, 3) := by decide +kernel
theorem dX11_init_72 : decode cX11_init 72 = .ok (.newarray .int, 2) := by decide +kernel
theorem dX11_init_74 : decode cX11_init 74 = .ok (.putfield 34, 3) := by decide +kernel
theorem dX11_init_77 : decode cX11_init 77 = .ok (.aload_n 0, 1) := by decide +kernel
theorem dX11_init_78 : decode cX11_init 78 = .ok (.sipush 160, 3) := by decide +kernel
theorem dX11_init_81 : decode cX11_init 81 = .ok (.newarray .int, 2) := by decide +kernel
theorem dX11_init_83 : decode cX11_init 83 = .ok (.putfield 37, 3) := by decide +kernel
theorem dX11_init_86 : decode cX11_init 86 = .ok (.aload_n 0, 1) := by decide +kernel
theorem dX11_init_87 : decode cX11_init 87 = .ok (.iconst 4, 1) := by decide +kernel
theorem dX11_init_88 : decode cX11_init 88 = .ok (.newarray .int, 2) := by decide +kernel
theorem dX11_init_90 : decode cX11_init 90 = .ok (.putfield 40, 3) := by decide +kernel
theorem dX11_init_93 : decode cX11_init 93 = .ok (.aload_n 0, 1) := by decide +kernel
theorem dX11_init_94 : decode cX11_init 94 = .ok (.sipush 480, 3) := by decide +kernel
theorem dX11_init_97 : decode cX11_init 97 = .ok (.newarray .int, 2) := by decide +kernel
theorem dX11_init_99 : decode cX11_init 99 = .ok (.putfield 43, 3) := by decide +kernel
theorem dX11_init_102 : decode cX11_init 102 = .ok (.aload_n 0, 1) := by decide +kernel
theorem dX11_init_103 : decode cX11_init 103 = .ok (.iconst 4, 1) := by decide +kernel
theorem dX11_init_104 : decode cX11_init 104 = .ok (.newarray .int, 2) := by decide +kernel
theorem dX11_init_106 : decode cX11_init 106 = .ok (.putfield 46, 3) := by decide +kernel
theorem dX11_init_109 : decode cX11_init 109 = .ok (.aload_n 0, 1) := by decide +kernel
theorem dX11_init_110 : decode cX11_init 110 = .ok (.sipush 320, 3) := by decide +kernel
theorem dX11_init_113 : decode cX11_init 113 = .ok (.newarray .int, 2) := by decide +kernel
theorem dX11_init_115 : decode cX11_init 115 = .ok (.putfield 49, 3) := by decide +kernel
theorem dX11_init_118 : decode cX11_init 118 = .ok (.aload_n 0, 1) := by decide +kernel
theorem dX11_init_119 : decode cX11_init 119 = .ok (.iconst 4, 1) := by decide +kernel
theorem dX11_init_120 : decode cX11_init 120 = .ok (.newarray .int, 2) := by decide +kernel
theorem dX11_init_122 : decode cX11_init 122 = .ok (.putfield 52, 3) := by decide +kernel
theorem dX11_init_125 : decode cX11_init 125 = .ok (.aload_n 0, 1) := by decide +kernel
theorem dX11_init_126 : decode cX11_init 126 = .ok (.iconst 4, 1) := by decide +kernel
theorem dX11_init_127 : decode cX11_init 127 = .ok (.newarray .int, 2) := by decide +kernel
theorem dX11_init_129 : decode cX11_init 129 = .ok (.putfield 55, 3) := by decide +kernel
theorem dX11_init_132 : decode cX11_init 132 = .ok (.aload_n 0, 1) := by decide +kernel
theorem dX11_init_133 : decode cX11_init 133 = .ok (.iconst 4, 1) := by decide +kernel
theorem dX11_init_134 : decode cX11_init 134 = .ok (.newarray .int, 2) := by decide +kernel
theorem dX11_init_136 : decode cX11_init 136 = .ok (.putfield 58, 3) := by decide +kernel
theorem dX11_init_139 : decode cX11_init 139 = .ok (.aload_n 0, 1) := by decide +kernel
theorem dX11_init_140 : decode cX11_init 140 = .ok (.iconst 4, 1) := by decide +kernel
theorem dX11_init_141 : decode cX11_init 141 = .ok (.newarray .int, 2) := by decide +kernel
theorem dX11_init_143 : decode cX11_init 143 = .ok (.putfield 61, 3) := by decide +kernel
theorem dX11_init_146 : decode cX11_init 146 = .ok (.aload_n 0, 1) := by decide +kernel
theorem dX11_init_147 : decode cX11_init 147 = .ok (.iconst 4, 1) := by decide +kernel
theorem dX11_init_148 : decode cX11_init 148 = .ok (.newarray .int, 2) := by decide +kernel
theorem dX11_init_150 : decode cX11_init 150 = .ok (.putfield 64, 3) := by decide +kernel
theorem dX11_init_153 : decode cX11_init 153 = .ok (.aload_n 0, 1) := by decide +kernel
theorem dX11_init_154 : decode cX11_init 154 = .ok (.bipush 96, 2) := by decide +kernel
theorem dX11_init_156 : decode cX11_init 156 = .ok (.newarray .int, 2) := by decide +kernel
theorem dX11_init_158 : decode cX11_init 158 = .ok (.putfield 67, 3) := by decide +kernel
theorem dX11_init_161 : decode cX11_init 161 = .ok (.aload_n 0, 1) := by decide +kernel
theorem dX11_init_162 : decode cX11_init 162 = .ok (.iconst 4, 1) := by decide +kernel
theorem dX11_init_163 : decode cX11_init 163 = .ok (.newarray .int, 2) := by decide +kernel
theorem dX11_init_165 : decode cX11_init 165 = .ok (.putfield 70, 3) := by decide +kernel
theorem dX11_init_168 : decode cX11_init 168 = .ok (.aload_n 0, 1) := by decide +kernel
theorem dX11_init_169 : decode cX11_init 169 = .ok (.sipush 160, 3) := by decide +kernel
theorem dX11_init_172 : decode cX11_init 172 = .ok (.newarray .int, 2) := by decide +kernel
theorem dX11_init_174 : decode cX11_init 174 = .ok (.putfield 73, 3) := by decide +kernel
theorem dX11_init_177 : decode cX11_init 177 = .ok (.aload_n 0, 1) := by decide +kernel
theorem dX11_init_178 : decode cX11_init 178 = .ok (.bipush 32, 2) := by decide +kernel
theorem dX11_init_180 : decode cX11_init 180 = .ok (.newarray .int, 2) := by decide +kernel
theorem dX11_init_182 : decode cX11_init 182 = .ok (.putfield 76, 3) := by decide +kernel
theorem dX11_init_185 : decode cX11_init 185 = .ok (.aload_n 0, 1) := by decide +kernel
theorem dX11_init_186 : decode cX11_init 186 = .ok (.iconst 4, 1) := by decide +kernel
theorem dX11_init_187 : decode cX11_init 187 = .ok (.newarray .int, 2) := by decide +kernel
theorem dX11_init_189 : decode cX11_init 189 = .ok (.putfield 79, 3) := by decide +kernel
theorem dX11_init_192 : decode cX11_init 192 = .ok (.aload_n 0, 1) := by decide +kernel
theorem dX11_init_193 : decode cX11_init 193 = .ok (.bipush 60, 2) := by decide +kernel
theorem dX11_init_195 : decode cX11_init 195 = .ok (.newarray .int, 2) := by decide +kernel
theorem dX11_init_197 : decode cX11_init 197 = .ok (.putfield 82, 3) := by decide +kernel
theorem dX11_init_200 : decode cX11_init 200 = .ok (.aload_n 0, 1) := by decide +kernel
theorem dX11_init_201 : decode cX11_init 201 = .ok (.iconst 4, 1) := by decide +kernel
theorem dX11_init_202 : decode cX11_init 202 = .ok (.newarray .int, 2) := by decide +kernel
theorem dX11_init_204 : decode cX11_init 204 = .ok (.putfield 85, 3) := by decide +kernel
theorem dX11_init_207 : decode cX11_init 207 = .ok (.aload_n 0, 1) := by decide +kernel
theorem dX11_init_208 : decode cX11_init 208 = .ok (.sipush 640, 3) := by decide +kernel
theorem dX11_init_211 : decode cX11_init 211 = .ok (.newarray .int, 2) := by decide +kernel
theorem dX11_init_213 : decode cX11_init 213 = .ok (.putfield 88, 3) := by decide +kernel
theorem dX11_init_216 : decode cX11_init 216 = .ok (.aload_n 0, 1) := by decide +kernel
theorem dX11_init_217 : decode cX11_init 217 = .ok (.bipush 30, 2) := by decide +kernel
theorem dX11_init_219 : decode cX11_init 219 = .ok (.newarray .int, 2) := by decide +kernel
theorem dX11_init_221 : decode cX11_init 221 = .ok (.putfield 91, 3) := by decide +kernel
theorem dX11_init_224 : decode cX11_init 224 = .ok (.aload_n 0, 1) := by decide +kernel
theorem dX11_init_225 : decode cX11_init 225 = .ok (.bipush 41, 2) := by decide +kernel
theorem dX11_init_227 : decode cX11_init 227 = .ok (.newarray .boolean, 2) := by decide +kernel
theorem dX11_init_229 : decode cX11_init 229 = .ok (.putfield 94, 3) := by decide +kernel
theorem dX11_init_232 : decode cX11_init 232 = .ok (.aload_n 0, 1) := by decide +kernel
theorem dX11_init_233 : decode cX11_init 233 = .ok (.bipush 41, 2) := by decide +kernel
theorem dX11_init_235 : decode cX11_init 235 = .ok (.newarray .int, 2) := by decide +kernel
theorem dX11_init_237 : decode cX11_init 237 = .ok (.putfield 98, 3) := by decide +kernel
theorem dX11_init_240 : decode cX11_init 240 = .ok (.aload_n 0, 1) := by decide +kernel
theorem dX11_init_241 : decode cX11_init 241 = .ok (.bipush 40, 2) := by decide +kernel
theorem dX11_init_243 : decode cX11_init 243 = .ok (.newarray .int, 2) := by decide +kernel
theorem dX11_init_245 : decode cX11_init 245 = .ok (.putfield 101, 3) := by decide +kernel
theorem dX11_init_248 : decode cX11_init 248 = .ok (.aload_n 0, 1) := by decide +kernel
theorem dX11_init_249 : decode cX11_init 249 = .ok (.bipush 40, 2) := by decide +kernel
theorem dX11_init_251 : decode cX11_init 251 = .ok (.newarray .int, 2) := by decide +kernel
theorem dX11_init_253 : decode cX11_init 253 = .ok (.putfield 104, 3) := by decide +kernel
theorem dX11_init_256 : decode cX11_init 256 = .ok (.aload_n 0, 1) := by decide +kernel
theorem dX11_init_257 : decode cX11_init 257 = .ok (.bipush 40, 2) := by decide +kernel
theorem dX11_init_259 : decode cX11_init 259 = .ok (.newarray .int, 2) := by decide +kernel
theorem dX11_init_261 : decode cX11_init 261 = .ok (.putfield 107, 3) := by decide +kernel
theorem dX11_init_264 : decode cX11_init 264 = .ok (.aload_n 0, 1) := by decide +kernel
theorem dX11_init_265 : decode cX11_init 265 = .ok (.bipush 41, 2) := by decide +kernel
theorem dX11_init_267 : decode cX11_init 267 = .ok (.newarray .boolean, 2) := by decide +kernel
theorem dX11_init_269 : decode cX11_init 269 = .ok (.putfield 110, 3) := by decide +kernel
theorem dX11_init_272 : decode cX11_init 272 = .ok (.aload_n 0, 1) := by decide +kernel
theorem dX11_init_273 : decode cX11_init 273 = .ok (.sipush 360, 3) := by decide +kernel
theorem dX11_init_276 : decode cX11_init 276 = .ok (.newarray .int, 2) := by decide +kernel
theorem dX11_init_278 : decode cX11_init 278 = .ok (.putfield 113, 3) := by decide +kernel
theorem dX11_init_281 : decode cX11_init 281 = .ok (.aload_n 0, 1) := by decide +kernel
theorem dX11_init_282 : decode cX11_init 282 = .ok (.sipush 360, 3) := by decide +kernel
theorem dX11_init_285 : decode cX11_init 285 = .ok (.newarray .int, 2) := by decide +kernel
theorem dX11_init_287 : decode cX11_init 287 = .ok (.putfield 116, 3) := by decide +kernel
theorem dX11_init_290 : decode cX11_init 290 = .ok (.aload_n 0, 1) := by decide +kernel
theorem dX11_init_291 : decode cX11_init 291 = .ok (.iconst 2, 1) := by decide +kernel
theorem dX11_init_292 : decode cX11_init 292 = .ok (.newarray .int, 2) := by decide +kernel
theorem dX11_init_294 : decode cX11_init 294 = .ok (.putfield 119, 3) := by decide +kernel
theorem dX11_init_297 : decode cX11_init 297 = .ok (.aload_n 0, 1) := by decide +kernel
theorem dX11_init_298 : decode cX11_init 298 = .ok (.iconst 2, 1) := by decide +kernel
theorem dX11_init_299 : decode cX11_init 299 = .ok (.newarray .int, 2) := by decide +kernel
theorem dX11_init_301 : decode cX11_init 301 = .ok (.putfield 122, 3) := by decide +kernel
theorem dX11_init_304 : decode cX11_init 304 = .ok (.aload_n 0, 1) := by decide +kernel
theorem dX11_init_305 : decode cX11_init 305 = .ok (.bipush 40, 2) := by decide +kernel
theorem dX11_init_307 : decode cX11_init 307 = .ok (.newarray .int, 2) := by decide +kernel
theorem dX11_init_309 : decode cX11_init 309 = .ok (.putfield 125, 3) := by decide +kernel
theorem dX11_init_312 : decode cX11_init 312 = .ok (.aload_n 0, 1) := by decide +kernel
theorem dX11_init_313 : decode cX11_init 313 = .ok (.bipush 40, 2) := by decide +kernel
theorem dX11_init_315 : decode cX11_init 315 = .ok (.newarray .int, 2) := by decide +kernel
theorem dX11_init_317 : decode cX11_init 317 = .ok (.putfield 128, 3) := by decide +kernel
theorem dX11_init_320 : decode cX11_init 320 = .ok (.aload_n 0, 1) := by decide +kernel
theorem dX11_init_321 : decode cX11_init 321 = .ok (.iconst 3, 1) := by decide +kernel
theorem dX11_init_322 : decode cX11_init 322 = .ok (.newarray .boolean, 2) := by decide +kernel
theorem dX11_init_324 : decode cX11_init 324 = .ok (.putfield 131, 3) := by decide +kernel
theorem dX11_init_327 : decode cX11_init 327 = .ok (.aload_n 0, 1) := by decide +kernel
theorem dX11_init_328 : decode cX11_init 328 = .ok (.getfield 40, 3) := by decide +kernel
theorem dX11_init_331 : decode cX11_init 331 = .ok (.iconst 0, 1) := by decide +kernel
theorem dX11_init_332 : decode cX11_init 332 = .ok (.iconst (-1), 1) := by decide +kernel
theorem dX11_init_333 : decode cX11_init 333 = .ok (.iastore, 1) := by decide +kernel
theorem dX11_init_334 : decode cX11_init 334 = .ok (.aload_n 0, 1) := by decide +kernel
theorem dX11_init_335 : decode cX11_init 335 = .ok (.getfield 52, 3) := by decide +kernel
theorem dX11_init_338 : decode cX11_init 338 = .ok (.iconst 0, 1) := by decide +kernel
theorem dX11_init_339 : decode cX11_init 339 = .ok (.iconst (-1), 1) := by decide +kernel
theorem dX11_init_340 : decode cX11_init 340 = .ok (.iastore, 1) := by decide +kernel
theorem dX11_init_341 : decode cX11_init 341 = .ok (.aload_n 0, 1) := by decide +kernel
theorem dX11_init_342 : decode cX11_init 342 = .ok (.getfield 79, 3) := by decide +kernel
theorem dX11_init_345 : decode cX11_init 345 = .ok (.iconst 0, 1) := by decide +kernel
theorem dX11_init_346 : decode cX11_init 346 = .ok (.iconst (-1), 1) := by decide +kernel
theorem dX11_init_347 : decode cX11_init 347 = .ok (.iastore, 1) := by decide +kernel
theorem dX11_init_348 : decode cX11_init 348 = .ok (.return_, 1) := by decide +kernel
theorem dX11_in_0 : decode cX11_in 0 = .ok (.iload_n 0, 1) := by decide +kernel
theorem dX11_in_1 : decode cX11_in 1 = .ok (.iload_n 1, 1) := by decide +kernel
theorem dX11_in_2 : decode cX11_in 2 = .ok (.if_icmp .lt 12, 3) := by decide +kernel
theorem dX11_in_5 : decode cX11_in 5 = .ok (.iload_n 0, 1) := by decide +kernel
theorem dX11_in_6 : decode cX11_in 6 = .ok (.iload_n 2, 1) := by decide +kernel
theorem dX11_in_7 : decode cX11_in 7 = .ok (.if_icmp .gt 7, 3) := by decide +kernel
theorem dX11_in_10 : decode cX11_in 10 = .ok (.iconst 1, 1) := by decide +kernel
theorem dX11_in_11 : decode cX11_in 11 = .ok (.goto 4, 3) := by decide +kernel
theorem dX11_in_14 : decode cX11_in 14 = .ok (.iconst 0, 1) := by decide +kernel
theorem dX11_in_15 : decode cX11_in 15 = .ok (.ireturn, 1) := by decide +kernel
theorem dX11_move_0 : decode cX11_move 0 = .ok (.iconst 0, 1) := by decide +kernel
theorem dX11_move_1 : decode cX11_move 1 = .ok (.istore 4, 2) := by decide +kernel
theorem dX11_move_3 : decode cX11_move 3 = .ok (.iload 4, 2) := by decide +kernel
theorem dX11_move_5 : decode cX11_move 5 = .ok (.iload_n 1, 1) := by decide +kernel
theorem dX11_move_6 : decode cX11_move 6 = .ok (.if_icmp .ge 25, 3) := by decide +kernel
theorem dX11_move_9 : decode cX11_move 9 = .ok (.aload_n 0, 1) := by decide +kernel
theorem dX11_move_10 : decode cX11_move 10 = .ok (.iload_n 1, 1) := by decide +kernel
theorem dX11_move_11 : decode cX11_move 11 = .ok (.iload_n 3, 1) := by decide +kernel
theorem dX11_move_12 : decode cX11_move 12 = .ok (.imul, 1) := by decide +kernel
theorem dX11_move_13 : decode cX11_move 13 = .ok (.iload 4, 2) := by decide +kernel
theorem dX11_move_15 : decode cX11_move 15 = .ok (.iadd, 1) := by decide +kernel
theorem dX11_move_16 : decode cX11_move 16 = .ok (.aload_n 0, 1) := by decide +kernel
theorem dX11_move_17 : decode cX11_move 17 = .ok (.iload_n 1, 1) := by decide +kernel
theorem dX11_move_18 : decode cX11_move 18 = .ok (.iload_n 2, 1) := by decide +kernel
theorem dX11_move_19 : decode cX11_move 19 = .ok (.imul, 1) := by decide +kernel
theorem dX11_move_20 : decode cX11_move 20 = .ok (.iload 4, 2) := by decide +kernel
theorem dX11_move_22 : decode cX11_move 22 = .ok (.iadd, 1) := by decide +kernel
theorem dX11_move_23 : decode cX11_move 23 = .ok (.iaload, 1) := by decide +kernel
theorem dX11_move_24 : decode cX11_move 24 = .ok (.iastore, 1) := by decide +kernel
theorem dX11_move_25 : decode cX11_move 25 = .ok (.iinc 4 1, 3) := by decide +kernel
theorem dX11_move_28 : decode cX11_move 28 = .ok (.goto (-25), 3) := by decide +kernel
theorem dX11_move_31 : decode cX11_move 31 = .ok (.return_, 1) := by decide +kernel
theorem dX11_copy_0 : decode cX11_copy 0 = .ok (.aload_n 0, 1) := by decide +kernel
theorem dX11_copy_1 : decode cX11_copy 1 = .ok (.getfield 7, 3) := by decide +kernel
theorem dX11_copy_4 : decode cX11_copy 4 = .ok (.iconst 1, 1) := by decide +kernel
theorem dX11_copy_5 : decode cX11_copy 5 = .ok (.iload_n 1, 1) := by decide +kernel
theorem dX11_copy_6 : decode cX11_copy 6 = .ok (.iload_n 2, 1) := by decide +kernel
theorem dX11_copy_7 : decode cX11_copy 7 = .ok (.invokestatic 138, 3) := by decide +kernel
theorem dX11_copy_10 : decode cX11_copy 10 = .ok (.aload_n 0, 1) := by decide +kernel
theorem dX11_copy_11 : decode cX11_copy 11 = .ok (.getfield 13, 3) := by decide +kernel
theorem dX11_copy_14 : decode cX11_copy 14 = .ok (.iconst 3, 1) := by decide +kernel
theorem dX11_copy_15 : decode cX11_copy 15 = .ok (.iload_n 1, 1) := by decide +kernel
theorem dX11_copy_16 : decode cX11_copy 16 = .ok (.iload_n 2, 1) := by decide +kernel
theorem dX11_copy_17 : decode cX11_copy 17 = .ok (.invokestatic 138, 3) := by decide +kernel
theorem dX11_copy_20 : decode cX11_copy 20 = .ok (.aload_n 0, 1) := by decide +kernel
theorem dX11_copy_21 : decode cX11_copy 21 = .ok (.getfield 16, 3) := by decide +kernel
theorem dX11_copy_24 : decode cX11_copy 24 = .ok (.bipush 120, 2) := by decide +kernel
theorem dX11_copy_26 : decode cX11_copy 26 = .ok (.iload_n 1, 1) := by decide +kernel
theorem dX11_copy_27 : decode cX11_copy 27 = .ok (.iload_n 2, 1) := by decide +kernel
theorem dX11_copy_28 : decode cX11_copy 28 = .ok (.invokestatic 138, 3) := by decide +kernel
theorem dX11_copy_31 : decode cX11_copy 31 = .ok (.aload_n 0, 1) := by decide +kernel
theorem dX11_copy_32 : decode cX11_copy 32 = .ok (.getfield 19, 3) := by decide +kernel
theorem dX11_copy_35 : decode cX11_copy 35 = .ok (.bipush 120, 2) := by decide +kernel
theorem dX11_copy_37 : decode cX11_copy 37 = .ok (.iload_n 1, 1) := by decide +kernel
theorem dX11_copy_38 : decode cX11_copy 38 = .ok (.iload_n 2, 1) := by decide +kernel
theorem dX11_copy_39 : decode cX11_copy 39 = .ok (.invokestatic 138, 3) := by decide +kernel
theorem dX11_copy_42 : decode cX11_copy 42 = .ok (.aload_n 0, 1) := by decide +kernel
theorem dX11_copy_43 : decode cX11_copy 43 = .ok (.getfield 22, 3) := by decide +kernel
theorem dX11_copy_46 : decode cX11_copy 46 = .ok (.bipush 120, 2) := by decide +kernel
theorem dX11_copy_48 : decode cX11_copy 48 = .ok (.iload_n 1, 1) := by decide +kernel
theorem dX11_copy_49 : decode cX11_copy 49 = .ok (.iload_n 2, 1) := by decide +kernel
theorem dX11_copy_50 : decode cX11_copy 50 = .ok (.invokestatic 138, 3) := by decide +kernel
theorem dX11_copy_53 : decode cX11_copy 53 = .ok (.aload_n 0, 1) := by decide +kernel
theorem dX11_copy_54 : decode cX11_copy 54 = .ok (.getfield 25, 3) := by decide +kernel
theorem dX11_copy_57 : decode cX11_copy 57 = .ok (.iconst 1, 1) := by decide +kernel
theorem dX11_copy_58 : decode cX11_copy 58 = .ok (.iload_n 1, 1) := by decide +kernel
theorem dX11_copy_59 : decode cX11_copy 59 = .ok (.iload_n 2, 1) := by decide +kernel
theorem dX11_copy_60 : decode cX11_copy 60 = .ok (.invokestatic 138, 3) := by decide +kernel
theorem dX11_copy_63 : decode cX11_copy 63 = .ok (.aload_n 0, 1) := by decide +kernel
theorem dX11_copy_64 : decode cX11_copy 64 = .ok (.getfield 28, 3) := by decide +kernel
theorem dX11_copy_67 : decode cX11_copy 67 = .ok (.bipush 30, 2) := by decide +kernel
theorem dX11_copy_69 : decode cX11_copy 69 = .ok (.iload_n 1, 1) := by decide +kernel
theorem dX11_copy_70 : decode cX11_copy 70 = .ok (.iload_n 2, 1) := by decide +kernel
theorem dX11_copy_71 : decode cX11_copy 71 = .ok (.invokestatic 138, 3) := by decide +kernel
theorem dX11_copy_74 : decode cX11_copy 74 = .ok (.aload_n 0, 1) := by decide +kernel
theorem dX11_copy_75 : decode cX11_copy 75 = .ok (.getfield 31, 3) := by decide +kernel
theorem dX11_copy_78 : decode cX11_copy 78 = .ok (.iconst 1, 1) := by decide +kernel
theorem dX11_copy_79 : decode cX11_copy 79 = .ok (.iload_n 1, 1) := by decide +kernel
theorem dX11_copy_80 : decode cX11_copy 80 = .ok (.iload_n 2, 1) := by decide +kernel
theorem dX11_copy_81 : decode cX11_copy 81 = .ok (.invokestatic 138, 3) := by decide +kernel
theorem dX11_copy_84 : decode cX11_copy 84 = .ok (.aload_n 0, 1) := by decide +kernel
theorem dX11_copy_85 : decode cX11_copy 85 = .ok (.getfield 34, 3) := by decide +kernel
theorem dX11_copy_88 : decode cX11_copy 88 = .ok (.bipush 40, 2) := by decide +kernel
theorem dX11_copy_90 : decode cX11_copy 90 = .ok (.iload_n 1, 1) := by decide +kernel
theorem dX11_copy_91 : decode cX11_copy 91 = .ok (.iload_n 2, 1) := by decide +kernel
theorem dX11_copy_92 : decode cX11_copy 92 = .ok (.invokestatic 138, 3) := by decide +kernel
theorem dX11_copy_95 : decode cX11_copy 95 = .ok (.aload_n 0, 1) := by decide +kernel
theorem dX11_copy_96 : decode cX11_copy 96 = .ok (.getfield 37, 3) := by decide +kernel
theorem dX11_copy_99 : decode cX11_copy 99 = .ok (.bipush 40, 2) := by decide +kernel
theorem dX11_copy_101 : decode cX11_copy 101 = .ok (.iload_n 1, 1) := by decide +kernel
theorem dX11_copy_102 : decode cX11_copy 102 = .ok (.iload_n 2, 1) := by decide +kernel
theorem dX11_copy_103 : decode cX11_copy 103 = .ok (.invokestatic 138, 3) := by decide +kernel
theorem dX11_copy_106 : decode cX11_copy 106 = .ok (.aload_n 0, 1) := by decide +kernel
theorem dX11_copy_107 : decode cX11_copy 107 = .ok (.getfield 40, 3) := by decide +kernel
theorem dX11_copy_110 : decode cX11_copy 110 = .ok (.iconst 1, 1) := by decide +kernel
theorem dX11_copy_111 : decode cX11_copy 111 = .ok (.iload_n 1, 1) := by decide +kernel
theorem dX11_copy_112 : decode cX11_copy 112 = .ok (.iload_n 2, 1) := by decide +kernel
theorem dX11_copy_113 : decode cX11_copy 113 = .ok (.invokestatic 138, 3) := by decide +kernel
theorem dX11_copy_116 : decode cX11_copy 116 = .ok (.aload_n 0, 1) := by decide +kernel
theorem dX11_copy_117 : decode cX11_copy 117 = .ok (.getfield 43, 3) := by decide +kernel
theorem dX11_copy_120 : decode cX11_copy 120 = .ok (.bipush 120, 2) := by decide +kernel
theorem dX11_copy_122 : decode cX11_copy 122 = .ok (.iload_n 1, 1) := by decide +kernel
theorem dX11_copy_123 : decode cX11_copy 123 = .ok (.iload_n 2, 1) := by decide +kernel
theorem dX11_copy_124 : decode cX11_copy 124 = .ok (.invokestatic 138, 3) := by decide +kernel
theorem dX11_copy_127 : decode cX11_copy 127 = .ok (.aload_n 0, 1) := by decide +kernel
theorem dX11_copy_128 : decode cX11_copy 128 = .ok (.getfield 46, 3) := by decide +kernel
theorem dX11_copy_131 : decode cX11_copy 131 = .ok (.iconst 1, 1) := by decide +kernel
theorem dX11_copy_132 : decode cX11_copy 132 = .ok (.iload_n 1, 1) := by decide +kernel
theorem dX11_copy_133 : decode cX11_copy 133 = .ok (.iload_n 2, 1) := by decide +kernel
theorem dX11_copy_134 : decode cX11_copy 134 = .ok (.invokestatic 138, 3) := by decide +kernel
theorem dX11_copy_137 : decode cX11_copy 137 = .ok (.aload_n 0, 1) := by decide +kernel
theorem dX11_copy_138 : decode cX11_copy 138 = .ok (.getfield 49, 3) := by decide +kernel
theorem dX11_copy_141 : decode cX11_copy 141 = .ok (.bipush 80, 2) := by decide +kernel
theorem dX11_copy_143 : decode cX11_copy 143 = .ok (.iload_n 1, 1) := by decide +kernel
theorem dX11_copy_144 : decode cX11_copy 144 = .ok (.iload_n 2, 1) := by decide +kernel
theorem dX11_copy_145 : decode cX11_copy 145 = .ok (.invokestatic 138, 3) := by decide +kernel
theorem dX11_copy_148 : decode cX11_copy 148 = .ok (.aload_n 0, 1) := by decide +kernel
theorem dX11_copy_149 : decode cX11_copy 149 = .ok (.getfield 52, 3) := by decide +kernel
theorem dX11_copy_152 : decode cX11_copy 152 = .ok (.iconst 1, 1) := by decide +kernel
theorem dX11_copy_153 : decode cX11_copy 153 = .ok (.iload_n 1, 1) := by decide +kernel
theorem dX11_copy_154 : decode cX11_copy 154 = .ok (.iload_n 2, 1) := by decide +kernel
theorem dX11_copy_155 : decode cX11_copy 155 = .ok (.invokestatic 138, 3) := by decide +kernel
theorem dX11_copy_158 : decode cX11_copy 158 = .ok (.aload_n 0, 1) := by decide +kernel
theorem dX11_copy_159 : decode cX11_copy 159 = .ok (.getfield 55, 3) := by decide +kernel
theorem dX11_copy_162 : decode cX11_copy 162 = .ok (.iconst 1, 1) := by decide +kernel
theorem dX11_copy_163 : decode cX11_copy 163 = .ok (.iload_n 1, 1) := by decide +kernel
theorem dX11_copy_164 : decode cX11_copy 164 = .ok (.iload_n 2, 1) := by decide +kernel
theorem dX11_copy_165 : decode cX11_copy 165 = .ok (.invokestatic 138, 3) := by decide +kernel
theorem dX11_copy_168 : decode cX11_copy 168 = .ok (.aload_n 0, 1) := by decide +kernel
theorem dX11_copy_169 : decode cX11_copy 169 = .ok (.getfield 58, 3) := by decide +kernel
theorem dX11_copy_172 : decode cX11_copy 172 = .ok (.iconst 1, 1) := by decide +kernel
theorem dX11_copy_173 : decode cX11_copy 173 = .ok (.iload_n 1, 1) := by decide +kernel
theorem dX11_copy_174 : decode cX11_copy 174 = .ok (.iload_n 2, 1) := by decide +kernel
theorem dX11_copy_175 : decode cX11_copy 175 = .ok (.invokestatic 138, 3) := by decide +kernel
theorem dX11_copy_178 : decode cX11_copy 178 = .ok (.aload_n 0, 1) := by decide +kernel
theorem dX11_copy_179 : decode cX11_copy 179 = .ok (.getfield 61, 3) := by decide +kernel
theorem dX11_copy_182 : decode cX11_copy 182 = .ok (.iconst 1, 1) := by decide +kernel
theorem dX11_copy_183 : decode cX11_copy 183 = .ok (.iload_n 1, 1) := by decide +kernel
theorem dX11_copy_184 : decode cX11_copy 184 = .ok (.iload_n 2, 1) := by decide +kernel
theorem dX11_copy_185 : decode cX11_copy 185 = .ok (.invokestatic 138, 3) := by decide +kernel
theorem dX11_copy_188 : decode cX11_copy 188 = .ok (.aload_n 0, 1) := by decide +kernel
theorem dX11_copy_189 : decode cX11_copy 189 = .ok (.getfield 64, 3) := by decide +kernel
theorem dX11_copy_192 : decode cX11_copy 192 = .ok (.iconst 1, 1) := by decide +kernel
theorem dX11_copy_193 : decode cX11_copy 193 = .ok (.iload_n 1, 1) := by decide +kernel
theorem dX11_copy_194 : decode cX11_copy 194 = .ok (.iload_n 2, 1) := by decide +kernel
theorem dX11_copy_195 : decode cX11_copy 195 = .ok (.invokestatic 138, 3) := by decide +kernel
theorem dX11_copy_198 : decode cX11_copy 198 = .ok (.aload_n 0, 1) := by decide +kernel
theorem dX11_copy_199 : decode cX11_copy 199 = .ok (.getfield 67, 3) := by decide +kernel
theorem dX11_copy_202 : decode cX11_copy 202 = .ok (.bipush 24, 2) := by decide +kernel
theorem dX11_copy_204 : decode cX11_copy 204 = .ok (.iload_n 1, 1) := by decide +kernel
theorem dX11_copy_205 : decode cX11_copy 205 = .ok (.iload_n 2, 1) := by decide +kernel
theorem dX11_copy_206 : decode cX11_copy 206 = .ok (.invokestatic 138, 3) := by decide +kernel
theorem dX11_copy_209 : decode cX11_copy 209 = .ok (.aload_n 0, 1) := by decide +kernel
theorem dX11_copy_210 : decode cX11_copy 210 = .ok (.getfield 70, 3) := by decide +kernel
theorem dX11_copy_213 : decode cX11_copy 213 = .ok (.iconst 1, 1) := by decide +kernel
theorem dX11_copy_214 : decode cX11_copy 214 = .ok (.iload_n 1, 1) := by decide +kernel
theorem dX11_copy_215 : decode cX11_copy 215 = .ok (.iload_n 2, 1) := by decide +kernel
theorem dX11_copy_216 : decode cX11_copy 216 = .ok (.invokestatic 138, 3) := by decide +kernel
theorem dX11_copy_219 : decode cX11_copy 219 = .ok (.aload_n 0, 1) := by decide +kernel
theorem dX11_copy_220 : decode cX11_copy 220 = .ok (.getfield 73, 3) := by decide +kernel
theorem dX11_copy_223 : decode cX11_copy 223 = .ok (.bipush 40, 2) := by decide +kernel
theorem dX11_copy_225 : decode cX11_copy 225 = .ok (.iload_n 1, 1) := by decide +kernel
theorem dX11_copy_226 : decode cX11_copy 226 = .ok (.iload_n 2, 1) := by decide +kernel
theorem dX11_copy_227 : decode cX11_copy 227 = .ok (.invokestatic 138, 3) := by decide +kernel
theorem dX11_copy_230 : decode cX11_copy 230 = .ok (.aload_n 0, 1) := by decide +kernel
theorem dX11_copy_231 : decode cX11_copy 231 = .ok (.getfield 76, 3) := by decide +kernel
theorem dX11_copy_234 : decode cX11_copy 234 = .ok (.bipush 8, 2) := by decide +kernel
theorem dX11_copy_236 : decode cX11_copy 236 = .ok (.iload_n 1, 1) := by decide +kernel
theorem dX11_copy_237 : decode cX11_copy 237 = .ok (.iload_n 2, 1) := by decide +kernel
theorem dX11_copy_238 : decode cX11_copy 238 = .ok (.invokestatic 138, 3) := by decide +kernel
theorem dX11_copy_241 : decode cX11_copy 241 = .ok (.aload_n 0, 1) := by decide +kernel
theorem dX11_copy_242 : decode cX11_copy 242 = .ok (.getfield 79, 3) := by decide +kernel
theorem dX11_copy_245 : decode cX11_copy 245 = .ok (.iconst 1, 1) := by decide +kernel
theorem dX11_copy_246 : decode cX11_copy 246 = .ok (.iload_n 1, 1) := by decide +kernel
theorem dX11_copy_247 : decode cX11_copy 247 = .ok (.iload_n 2, 1) := by decide +kernel
theorem dX11_copy_248 : decode cX11_copy 248 = .ok (.invokestatic 138, 3) := by decide +kernel
theorem dX11_copy_251 : decode cX11_copy 251 = .ok (.aload_n 0, 1) := by decide +kernel
theorem dX11_copy_252 : decode cX11_copy 252 = .ok (.getfield 82, 3) := by decide +kernel
theorem dX11_copy_255 : decode cX11_copy 255 = .ok (.bipush 15, 2) := by decide +kernel
theorem dX11_copy_257 : decode cX11_copy 257 = .ok (.iload_n 1, 1) := by decide +kernel
theorem dX11_copy_258 : decode cX11_copy 258 = .ok (.iload_n 2, 1) := by decide +kernel
theorem dX11_copy_259 : decode cX11_copy 259 = .ok (.invokestatic 138, 3) := by decide +kernel
theorem dX11_copy_262 : decode cX11_copy 262 = .ok (.aload_n 0, 1) := by decide +kernel
theorem dX11_copy_263 : decode cX11_copy 263 = .ok (.getfield 85, 3) := by decide +kernel
theorem dX11_copy_266 : decode cX11_copy 266 = .ok (.iconst 1, 1) := by decide +kernel
theorem dX11_copy_267 : decode cX11_copy 267 = .ok (.iload_n 1, 1) := by decide +kernel
theorem dX11_copy_268 : decode cX11_copy 268 = .ok (.iload_n 2, 1) := by decide +kernel
theorem dX11_copy_269 : decode cX11_copy 269 = .ok (.invokestatic 138, 3) := by decide +kernel
theorem dX11_copy_272 : decode cX11_copy 272 = .ok (.aload_n 0, 1) := by decide +kernel
theorem dX11_copy_273 : decode cX11_copy 273 = .ok (.getfield 88, 3) := by decide +kernel
theorem dX11_copy_276 : decode cX11_copy 276 = .ok (.sipush 160, 3) := by decide +kernel
theorem dX11_copy_279 : decode cX11_copy 279 = .ok (.iload_n 1, 1) := by decide +kernel
theorem dX11_copy_280 : decode cX11_copy 280 = .ok (.iload_n 2, 1) := by decide +kernel
theorem dX11_copy_281 : decode cX11_copy 281 = .ok (.invokestatic 138, 3) := by decide +kernel
theorem dX11_copy_284 : decode cX11_copy 284 = .ok (.return_, 1) := by decide +kernel
theorem dX11_isProgram_0 : decode cX11_isProgram 0 = .ok (.iload_n 1, 1) := by decide +kernel
theorem dX11_isProgram_1 : decode cX11_isProgram 1 = .ok (.iconst 0, 1) := by decide +kernel
theorem dX11_isProgram_2 : decode cX11_isProgram 2 = .ok (.aload_n 0, 1) := by decide +kernel
theorem dX11_isProgram_3 : decode cX11_isProgram 3 = .ok (.getfield 7, 3) := by decide +kernel
theorem dX11_isProgram_6 : decode cX11_isProgram 6 = .ok (.iconst 0, 1) := by decide +kernel
theorem dX11_isProgram_7 : decode cX11_isProgram 7 = .ok (.iaload, 1) := by decide +kernel
theorem dX11_isProgram_8 : decode cX11_isProgram 8 = .ok (.iconst 1, 1) := by decide +kernel
theorem dX11_isProgram_9 : decode cX11_isProgram 9 = .ok (.isub, 1) := by decide +kernel
theorem dX11_isProgram_10 : decode cX11_isProgram 10 = .ok (.invokestatic 142, 3) := by decide +kernel
theorem dX11_isProgram_13 : decode cX11_isProgram 13 = .ok (.ireturn, 1) := by decide +kernel
theorem dX11_hasArgument_0 : decode cX11_hasArgument 0 = .ok (.iload_n 0, 1) := by decide +kernel
theorem dX11_hasArgument_1 : decode cX11_hasArgument 1 = .ok (.ifCond .eq 33, 3) := by decide +kernel
theorem dX11_hasArgument_4 : decode cX11_hasArgument 4 = .ok (.iload_n 0, 1) := by decide +kernel
theorem dX11_hasArgument_5 : decode cX11_hasArgument 5 = .ok (.bipush 7, 2) := by decide +kernel
theorem dX11_hasArgument_7 : decode cX11_hasArgument 7 = .ok (.if_icmp .eq 27, 3) := by decide +kernel
theorem dX11_hasArgument_10 : decode cX11_hasArgument 10 = .ok (.iload_n 0, 1) := by decide +kernel
theorem dX11_hasArgument_11 : decode cX11_hasArgument 11 = .ok (.bipush 8, 2) := by decide +kernel
theorem dX11_hasArgument_13 : decode cX11_hasArgument 13 = .ok (.if_icmp .eq 21, 3) := by decide +kernel
theorem dX11_hasArgument_16 : decode cX11_hasArgument 16 = .ok (.iload_n 0, 1) := by decide +kernel
theorem dX11_hasArgument_17 : decode cX11_hasArgument 17 = .ok (.bipush 9, 2) := by decide +kernel
theorem dX11_hasArgument_19 : decode cX11_hasArgument 19 = .ok (.if_icmp .eq 15, 3) := by decide +kernel
theorem dX11_hasArgument_22 : decode cX11_hasArgument 22 = .ok (.iload_n 0, 1) := by decide +kernel
theorem dX11_hasArgument_23 : decode cX11_hasArgument 23 = .ok (.bipush 10, 2) := by decide +kernel
theorem dX11_hasArgument_25 : decode cX11_hasArgument 25 = .ok (.if_icmp .eq 9, 3) := by decide +kernel
theorem dX11_hasArgument_28 : decode cX11_hasArgument 28 = .ok (.iload_n 0, 1) := by decide +kernel
theorem dX11_hasArgument_29 : decode cX11_hasArgument 29 = .ok (.bipush 15, 2) := by decide +kernel
theorem dX11_hasArgument_31 : decode cX11_hasArgument 31 = .ok (.if_icmp .ne 7, 3) := by decide +kernel
theorem dX11_hasArgument_34 : decode cX11_hasArgument 34 = .ok (.iconst 1, 1) := by decide +kernel
theorem dX11_hasArgument_35 : decode cX11_hasArgument 35 = .ok (.goto 4, 3) := by decide +kernel
theorem dX11_hasArgument_38 : decode cX11_hasArgument 38 = .ok (.iconst 0, 1) := by decide +kernel
theorem dX11_hasArgument_39 : decode cX11_hasArgument 39 = .ok (.ireturn, 1) := by decide +kernel
theorem dX11_isArgument_0 : decode cX11_isArgument 0 = .ok (.iload_n 0, 1) := by decide +kernel
theorem dX11_isArgument_1 : decode cX11_isArgument 1 = .ok (.tableswitch 104 0 15 #[79, 104, 104, 104, 104, 104, 104, 88, 88, 96, 96, 104, 104, 104, 104, 88], 79) := by decide +kernel
theorem dX11_isArgument_80 : decode cX11_isArgument 80 = .ok (.iload_n 1, 1) := by decide +kernel
theorem dX11_isArgument_81 : decode cX11_isArgument 81 = .ok (.bipush (-128), 2) := by decide +kernel
theorem dX11_isArgument_83 : decode cX11_isArgument 83 = .ok (.bipush 127, 2) := by decide +kernel
theorem dX11_isArgument_85 : decode cX11_isArgument 85 = .ok (.invokestatic 142, 3) := by decide +kernel
theorem dX11_isArgument_88 : decode cX11_isArgument 88 = .ok (.ireturn, 1) := by decide +kernel
theorem dX11_isArgument_89 : decode cX11_isArgument 89 = .ok (.iload_n 1, 1) := by decide +kernel
theorem dX11_isArgument_90 : decode cX11_isArgument 90 = .ok (.iconst 0, 1) := by decide +kernel
theorem dX11_isArgument_91 : decode cX11_isArgument 91 = .ok (.bipush 7, 2) := by decide +kernel
theorem dX11_isArgument_93 : decode cX11_isArgument 93 = .ok (.invokestatic 142, 3) := by decide +kernel
theorem dX11_isArgument_96 : decode cX11_isArgument 96 = .ok (.ireturn, 1) := by decide +kernel
theorem dX11_isArgument_97 : decode cX11_isArgument 97 = .ok (.iload_n 1, 1) := by decide +kernel
theorem dX11_isArgument_98 : decode cX11_isArgument 98 = .ok (.iconst 0, 1) := by decide +kernel
theorem dX11_isArgument_99 : decode cX11_isArgument 99 = .ok (.bipush 39, 2) := by decide +kernel
theorem dX11_isArgument_101 : decode cX11_isArgument 101 = .ok (.invokestatic 142, 3) := by decide +kernel
theorem dX11_isArgument_104 : decode cX11_isArgument 104 = .ok (.ireturn, 1) := by decide +kernel
theorem dX11_isArgument_105 : decode cX11_isArgument 105 = .ok (.iload_n 1, 1) := by decide +kernel
theorem dX11_isArgument_106 : decode cX11_isArgument 106 = .ok (.ifCond .ne 7, 3) := by decide +kernel
theorem dX11_isArgument_109 : decode cX11_isArgument 109 = .ok (.iconst 1, 1) := by decide +kernel
theorem dX11_isArgument_110 : decode cX11_isArgument 110 = .ok (.goto 4, 3) := by decide +kernel
theorem dX11_isArgument_113 : decode cX11_isArgument 113 = .ok (.iconst 0, 1) := by decide +kernel
theorem dX11_isArgument_114 : decode cX11_isArgument 114 = .ok (.ireturn, 1) := by decide +kernel
theorem dX11_forget_0 : decode cX11_forget 0 = .ok (.iconst 0, 1) := by decide +kernel
theorem dX11_forget_1 : decode cX11_forget 1 = .ok (.istore_n 2, 1) := by decide +kernel
theorem dX11_forget_2 : decode cX11_forget 2 = .ok (.iload_n 2, 1) := by decide +kernel
theorem dX11_forget_3 : decode cX11_forget 3 = .ok (.bipush 40, 2) := by decide +kernel
theorem dX11_forget_5 : decode cX11_forget 5 = .ok (.if_icmp .ge 21, 3) := by decide +kernel
theorem dX11_forget_8 : decode cX11_forget 8 = .ok (.aload_n 0, 1) := by decide +kernel
theorem dX11_forget_9 : decode cX11_forget 9 = .ok (.getfield 22, 3) := by decide +kernel
theorem dX11_forget_12 : decode cX11_forget 12 = .ok (.bipush 40, 2) := by decide +kernel
theorem dX11_forget_14 : decode cX11_forget 14 = .ok (.iload_n 1, 1) := by decide +kernel
theorem dX11_forget_15 : decode cX11_forget 15 = .ok (.imul, 1) := by decide +kernel
theorem dX11_forget_16 : decode cX11_forget 16 = .ok (.iload_n 2, 1) := by decide +kernel
theorem dX11_forget_17 : decode cX11_forget 17 = .ok (.iadd, 1) := by decide +kernel
theorem dX11_forget_18 : decode cX11_forget 18 = .ok (.iconst 0, 1) := by decide +kernel
theorem dX11_forget_19 : decode cX11_forget 19 = .ok (.iastore, 1) := by decide +kernel
theorem dX11_forget_20 : decode cX11_forget 20 = .ok (.iinc 2 1, 3) := by decide +kernel
theorem dX11_forget_23 : decode cX11_forget 23 = .ok (.goto (-21), 3) := by decide +kernel
theorem dX11_forget_26 : decode cX11_forget 26 = .ok (.return_, 1) := by decide +kernel
theorem dX11_program_0 : decode cX11_program 0 = .ok (.aload_n 0, 1) := by decide +kernel
theorem dX11_program_1 : decode cX11_program 1 = .ok (.iconst 0, 1) := by decide +kernel
theorem dX11_program_2 : decode cX11_program 2 = .ok (.putfield 134, 3) := by decide +kernel
theorem dX11_program_5 : decode cX11_program 5 = .ok (.aload_n 0, 1) := by decide +kernel
theorem dX11_program_6 : decode cX11_program 6 = .ok (.getfield 7, 3) := by decide +kernel
theorem dX11_program_9 : decode cX11_program 9 = .ok (.iconst 0, 1) := by decide +kernel
theorem dX11_program_10 : decode cX11_program 10 = .ok (.iaload, 1) := by decide +kernel
theorem dX11_program_11 : decode cX11_program 11 = .ok (.iconst 3, 1) := by decide +kernel
theorem dX11_program_12 : decode cX11_program 12 = .ok (.if_icmp .ne 5, 3) := by decide +kernel
theorem dX11_program_15 : decode cX11_program 15 = .ok (.iconst (-1), 1) := by decide +kernel
theorem dX11_program_16 : decode cX11_program 16 = .ok (.ireturn, 1) := by decide +kernel
theorem dX11_program_17 : decode cX11_program 17 = .ok (.aload_n 0, 1) := by decide +kernel
theorem dX11_program_18 : decode cX11_program 18 = .ok (.getfield 7, 3) := by decide +kernel
theorem dX11_program_21 : decode cX11_program 21 = .ok (.iconst 0, 1) := by decide +kernel
theorem dX11_program_22 : decode cX11_program 22 = .ok (.iaload, 1) := by decide +kernel
theorem dX11_program_23 : decode cX11_program 23 = .ok (.istore_n 1, 1) := by decide +kernel
theorem dX11_program_24 : decode cX11_program 24 = .ok (.aload_n 0, 1) := by decide +kernel
theorem dX11_program_25 : decode cX11_program 25 = .ok (.getfield 7, 3) := by decide +kernel
theorem dX11_program_28 : decode cX11_program 28 = .ok (.iconst 0, 1) := by decide +kernel
theorem dX11_program_29 : decode cX11_program 29 = .ok (.dup2, 1) := by decide +kernel
theorem dX11_program_30 : decode cX11_program 30 = .ok (.iaload, 1) := by decide +kernel
theorem dX11_program_31 : decode cX11_program 31 = .ok (.iconst 1, 1) := by decide +kernel
theorem dX11_program_32 : decode cX11_program 32 = .ok (.iadd, 1) := by decide +kernel
theorem dX11_program_33 : decode cX11_program 33 = .ok (.iastore, 1) := by decide +kernel
theorem dX11_program_34 : decode cX11_program 34 = .ok (.aload_n 0, 1) := by decide +kernel
theorem dX11_program_35 : decode cX11_program 35 = .ok (.getfield 13, 3) := by decide +kernel
theorem dX11_program_38 : decode cX11_program 38 = .ok (.iload_n 1, 1) := by decide +kernel
theorem dX11_program_39 : decode cX11_program 39 = .ok (.iconst 0, 1) := by decide +kernel
theorem dX11_program_40 : decode cX11_program 40 = .ok (.iastore, 1) := by decide +kernel
theorem dX11_program_41 : decode cX11_program 41 = .ok (.aload_n 0, 1) := by decide +kernel
theorem dX11_program_42 : decode cX11_program 42 = .ok (.iload_n 1, 1) := by decide +kernel
theorem dX11_program_43 : decode cX11_program 43 = .ok (.invokevirtual 146, 3) := by decide +kernel
theorem dX11_program_46 : decode cX11_program 46 = .ok (.iload_n 1, 1) := by decide +kernel
theorem dX11_program_47 : decode cX11_program 47 = .ok (.ireturn, 1) := by decide +kernel
theorem dX11_order_0 : decode cX11_order 0 = .ok (.aload_n 0, 1) := by decide +kernel
theorem dX11_order_1 : decode cX11_order 1 = .ok (.iconst 0, 1) := by decide +kernel
theorem dX11_order_2 : decode cX11_order 2 = .ok (.putfield 134, 3) := by decide +kernel
theorem dX11_order_5 : decode cX11_order 5 = .ok (.aload_n 0, 1) := by decide +kernel
theorem dX11_order_6 : decode cX11_order 6 = .ok (.iload_n 1, 1) := by decide +kernel
theorem dX11_order_7 : decode cX11_order 7 = .ok (.invokevirtual 150, 3) := by decide +kernel
theorem dX11_order_10 : decode cX11_order 10 = .ok (.ifCond .eq 32, 3) := by decide +kernel
theorem dX11_order_13 : decode cX11_order 13 = .ok (.iload_n 2, 1) := by decide +kernel
theorem dX11_order_14 : decode cX11_order 14 = .ok (.iconst 0, 1) := by decide +kernel
theorem dX11_order_15 : decode cX11_order 15 = .ok (.bipush 15, 2) := by decide +kernel
theorem dX11_order_17 : decode cX11_order 17 = .ok (.invokestatic 142, 3) := by decide +kernel
theorem dX11_order_20 : decode cX11_order 20 = .ok (.ifCond .eq 22, 3) := by decide +kernel
theorem dX11_order_23 : decode cX11_order 23 = .ok (.iload_n 2, 1) := by decide +kernel
theorem dX11_order_24 : decode cX11_order 24 = .ok (.iload_n 3, 1) := by decide +kernel
theorem dX11_order_25 : decode cX11_order 25 = .ok (.invokestatic 154, 3) := by decide +kernel
theorem dX11_order_28 : decode cX11_order 28 = .ok (.ifCond .eq 14, 3) := by decide +kernel
theorem dX11_order_31 : decode cX11_order 31 = .ok (.aload_n 0, 1) := by decide +kernel
theorem dX11_order_32 : decode cX11_order 32 = .ok (.getfield 13, 3) := by decide +kernel
theorem dX11_order_35 : decode cX11_order 35 = .ok (.iload_n 1, 1) := by decide +kernel
theorem dX11_order_36 : decode cX11_order 36 = .ok (.iaload, 1) := by decide +kernel
theorem dX11_order_37 : decode cX11_order 37 = .ok (.bipush 40, 2) := by decide +kernel
theorem dX11_order_39 : decode cX11_order 39 = .ok (.if_icmp .ne 5, 3) := by decide +kernel
theorem dX11_order_42 : decode cX11_order 42 = .ok (.iconst (-1), 1) := by decide +kernel
theorem dX11_order_43 : decode cX11_order 43 = .ok (.ireturn, 1) := by decide +kernel
theorem dX11_order_44 : decode cX11_order 44 = .ok (.bipush 40, 2) := by decide +kernel
theorem dX11_order_46 : decode cX11_order 46 = .ok (.iload_n 1, 1) := by decide +kernel
theorem dX11_order_47 : decode cX11_order 47 = .ok (.imul, 1) := by decide +kernel
theorem dX11_order_48 : decode cX11_order 48 = .ok (.aload_n 0, 1) := by decide +kernel
theorem dX11_order_49 : decode cX11_order 49 = .ok (.getfield 13, 3) := by decide +kernel
theorem dX11_order_52 : decode cX11_order 52 = .ok (.iload_n 1, 1) := by decide +kernel
theorem dX11_order_53 : decode cX11_order 53 = .ok (.iaload, 1) := by decide +kernel
theorem dX11_order_54 : decode cX11_order 54 = .ok (.iadd, 1) := by decide +kernel
theorem dX11_order_55 : decode cX11_order 55 = .ok (.istore 4, 2) := by decide +kernel
theorem dX11_order_57 : decode cX11_order 57 = .ok (.aload_n 0, 1) := by decide +kernel
theorem dX11_order_58 : decode cX11_order 58 = .ok (.getfield 16, 3) := by decide +kernel
theorem dX11_order_61 : decode cX11_order 61 = .ok (.iload 4, 2) := by decide +kernel
theorem dX11_order_63 : decode cX11_order 63 = .ok (.iload_n 2, 1) := by decide +kernel
theorem dX11_order_64 : decode cX11_order 64 = .ok (.iastore, 1) := by decide +kernel
theorem dX11_order_65 : decode cX11_order 65 = .ok (.aload_n 0, 1) := by decide +kernel
theorem dX11_order_66 : decode cX11_order 66 = .ok (.getfield 19, 3) := by decide +kernel
theorem dX11_order_69 : decode cX11_order 69 = .ok (.iload 4, 2) := by decide +kernel
theorem dX11_order_71 : decode cX11_order 71 = .ok (.iload_n 3, 1) := by decide +kernel
theorem dX11_order_72 : decode cX11_order 72 = .ok (.iastore, 1) := by decide +kernel
theorem dX11_order_73 : decode cX11_order 73 = .ok (.aload_n 0, 1) := by decide +kernel
theorem dX11_order_74 : decode cX11_order 74 = .ok (.getfield 13, 3) := by decide +kernel
theorem dX11_order_77 : decode cX11_order 77 = .ok (.iload_n 1, 1) := by decide +kernel
theorem dX11_order_78 : decode cX11_order 78 = .ok (.dup2, 1) := by decide +kernel
theorem dX11_order_79 : decode cX11_order 79 = .ok (.iaload, 1) := by decide +kernel
theorem dX11_order_80 : decode cX11_order 80 = .ok (.iconst 1, 1) := by decide +kernel
theorem dX11_order_81 : decode cX11_order 81 = .ok (.iadd, 1) := by decide +kernel
theorem dX11_order_82 : decode cX11_order 82 = .ok (.iastore, 1) := by decide +kernel
theorem dX11_order_83 : decode cX11_order 83 = .ok (.aload_n 0, 1) := by decide +kernel
theorem dX11_order_84 : decode cX11_order 84 = .ok (.iload_n 1, 1) := by decide +kernel
theorem dX11_order_85 : decode cX11_order 85 = .ok (.invokevirtual 146, 3) := by decide +kernel
theorem dX11_order_88 : decode cX11_order 88 = .ok (.aload_n 0, 1) := by decide +kernel
theorem dX11_order_89 : decode cX11_order 89 = .ok (.getfield 13, 3) := by decide +kernel
theorem dX11_order_92 : decode cX11_order 92 = .ok (.iload_n 1, 1) := by decide +kernel
theorem dX11_order_93 : decode cX11_order 93 = .ok (.iaload, 1) := by decide +kernel
theorem dX11_order_94 : decode cX11_order 94 = .ok (.iconst 1, 1) := by decide +kernel
theorem dX11_order_95 : decode cX11_order 95 = .ok (.isub, 1) := by decide +kernel
theorem dX11_order_96 : decode cX11_order 96 = .ok (.ireturn, 1) := by decide +kernel
theorem dX11_change_0 : decode cX11_change 0 = .ok (.aload_n 0, 1) := by decide +kernel
theorem dX11_change_1 : decode cX11_change 1 = .ok (.iconst 0, 1) := by decide +kernel
theorem dX11_change_2 : decode cX11_change 2 = .ok (.putfield 134, 3) := by decide +kernel
theorem dX11_change_5 : decode cX11_change 5 = .ok (.aload_n 0, 1) := by decide +kernel
theorem dX11_change_6 : decode cX11_change 6 = .ok (.iload_n 1, 1) := by decide +kernel
theorem dX11_change_7 : decode cX11_change 7 = .ok (.invokevirtual 150, 3) := by decide +kernel
theorem dX11_change_10 : decode cX11_change 10 = .ok (.ifCond .eq 19, 3) := by decide +kernel
theorem dX11_change_13 : decode cX11_change 13 = .ok (.iload_n 2, 1) := by decide +kernel
theorem dX11_change_14 : decode cX11_change 14 = .ok (.iconst 0, 1) := by decide +kernel
theorem dX11_change_15 : decode cX11_change 15 = .ok (.aload_n 0, 1) := by decide +kernel
theorem dX11_change_16 : decode cX11_change 16 = .ok (.getfield 13, 3) := by decide +kernel
theorem dX11_change_19 : decode cX11_change 19 = .ok (.iload_n 1, 1) := by decide +kernel
theorem dX11_change_20 : decode cX11_change 20 = .ok (.iaload, 1) := by decide +kernel
theorem dX11_change_21 : decode cX11_change 21 = .ok (.iconst 1, 1) := by decide +kernel
theorem dX11_change_22 : decode cX11_change 22 = .ok (.isub, 1) := by decide +kernel
theorem dX11_change_23 : decode cX11_change 23 = .ok (.invokestatic 142, 3) := by decide +kernel
theorem dX11_change_26 : decode cX11_change 26 = .ok (.ifCond .ne 5, 3) := by decide +kernel
theorem dX11_change_29 : decode cX11_change 29 = .ok (.iconst 0, 1) := by decide +kernel
theorem dX11_change_30 : decode cX11_change 30 = .ok (.ireturn, 1) := by decide +kernel
theorem dX11_change_31 : decode cX11_change 31 = .ok (.bipush 40, 2) := by decide +kernel
theorem dX11_change_33 : decode cX11_change 33 = .ok (.iload_n 1, 1) := by decide +kernel
theorem dX11_change_34 : decode cX11_change 34 = .ok (.imul, 1) := by decide +kernel
theorem dX11_change_35 : decode cX11_change 35 = .ok (.iload_n 2, 1) := by decide +kernel
theorem dX11_change_36 : decode cX11_change 36 = .ok (.iadd, 1) := by decide +kernel
theorem dX11_change_37 : decode cX11_change 37 = .ok (.istore 4, 2) := by decide +kernel
theorem dX11_change_39 : decode cX11_change 39 = .ok (.aload_n 0, 1) := by decide +kernel
theorem dX11_change_40 : decode cX11_change 40 = .ok (.getfield 16, 3) := by decide +kernel
theorem dX11_change_43 : decode cX11_change 43 = .ok (.iload 4, 2) := by decide +kernel
theorem dX11_change_45 : decode cX11_change 45 = .ok (.iaload, 1) := by decide +kernel
theorem dX11_change_46 : decode cX11_change 46 = .ok (.invokestatic 158, 3) := by decide +kernel
theorem dX11_change_49 : decode cX11_change 49 = .ok (.ifCond .eq 17, 3) := by decide +kernel
theorem dX11_change_52 : decode cX11_change 52 = .ok (.aload_n 0, 1) := by decide +kernel
theorem dX11_change_53 : decode cX11_change 53 = .ok (.getfield 16, 3) := by decide +kernel
theorem dX11_change_56 : decode cX11_change 56 = .ok (.iload 4, 2) := by decide +kernel
theorem dX11_change_58 : decode cX11_change 58 = .ok (.iaload, 1) := by decide +kernel
theorem dX11_change_59 : decode cX11_change 59 = .ok (.iload_n 3, 1) := by decide +kernel
theorem dX11_change_60 : decode cX11_change 60 = .ok (.invokestatic 154, 3) := by decide +kernel
theorem dX11_change_63 : decode cX11_change 63 = .ok (.ifCond .ne 5, 3) := by decide +kernel
theorem dX11_change_66 : decode cX11_change 66 = .ok (.iconst 0, 1) := by decide +kernel
theorem dX11_change_67 : decode cX11_change 67 = .ok (.ireturn, 1) := by decide +kernel
theorem dX11_change_68 : decode cX11_change 68 = .ok (.aload_n 0, 1) := by decide +kernel
theorem dX11_change_69 : decode cX11_change 69 = .ok (.getfield 19, 3) := by decide +kernel
theorem dX11_change_72 : decode cX11_change 72 = .ok (.iload 4, 2) := by decide +kernel
theorem dX11_change_74 : decode cX11_change 74 = .ok (.iload_n 3, 1) := by decide +kernel
theorem dX11_change_75 : decode cX11_change 75 = .ok (.iastore, 1) := by decide +kernel
theorem dX11_change_76 : decode cX11_change 76 = .ok (.aload_n 0, 1) := by decide +kernel
theorem dX11_change_77 : decode cX11_change 77 = .ok (.iload_n 1, 1) := by decide +kernel
theorem dX11_change_78 : decode cX11_change 78 = .ok (.invokevirtual 146, 3) := by decide +kernel
theorem dX11_change_81 : decode cX11_change 81 = .ok (.iconst 1, 1) := by decide +kernel
theorem dX11_change_82 : decode cX11_change 82 = .ok (.ireturn, 1) := by decide +kernel
theorem dX11_isLed_0 : decode cX11_isLed 0 = .ok (.iconst 0, 1) := by decide +kernel
theorem dX11_isLed_1 : decode cX11_isLed 1 = .ok (.istore_n 3, 1) := by decide +kernel
theorem dX11_isLed_2 : decode cX11_isLed 2 = .ok (.iload_n 3, 1) := by decide +kernel
theorem dX11_isLed_3 : decode cX11_isLed 3 = .ok (.aload_n 0, 1) := by decide +kernel
theorem dX11_isLed_4 : decode cX11_isLed 4 = .ok (.getfield 13, 3) := by decide +kernel
theorem dX11_isLed_7 : decode cX11_isLed 7 = .ok (.iload_n 1, 1) := by decide +kernel
theorem dX11_isLed_8 : decode cX11_isLed 8 = .ok (.iaload, 1) := by decide +kernel
theorem dX11_isLed_9 : decode cX11_isLed 9 = .ok (.if_icmp .ge 54, 3) := by decide +kernel
theorem dX11_isLed_12 : decode cX11_isLed 12 = .ok (.bipush 40, 2) := by decide +kernel
theorem dX11_isLed_14 : decode cX11_isLed 14 = .ok (.iload_n 1, 1) := by decide +kernel
theorem dX11_isLed_15 : decode cX11_isLed 15 = .ok (.imul, 1) := by decide +kernel
theorem dX11_isLed_16 : decode cX11_isLed 16 = .ok (.iload_n 3, 1) := by decide +kernel
theorem dX11_isLed_17 : decode cX11_isLed 17 = .ok (.iadd, 1) := by decide +kernel
theorem dX11_isLed_18 : decode cX11_isLed 18 = .ok (.istore 4, 2) := by decide +kernel
theorem dX11_isLed_20 : decode cX11_isLed 20 = .ok (.aload_n 0, 1) := by decide +kernel
theorem dX11_isLed_21 : decode cX11_isLed 21 = .ok (.getfield 16, 3) := by decide +kernel
theorem dX11_isLed_24 : decode cX11_isLed 24 = .ok (.iload 4, 2) := by decide +kernel
theorem dX11_isLed_26 : decode cX11_isLed 26 = .ok (.iaload, 1) := by decide +kernel
theorem dX11_isLed_27 : decode cX11_isLed 27 = .ok (.bipush 9, 2) := by decide +kernel
theorem dX11_isLed_29 : decode cX11_isLed 29 = .ok (.if_icmp .eq 15, 3) := by decide +kernel
theorem dX11_isLed_32 : decode cX11_isLed 32 = .ok (.aload_n 0, 1) := by decide +kernel
theorem dX11_isLed_33 : decode cX11_isLed 33 = .ok (.getfield 16, 3) := by decide +kernel
theorem dX11_isLed_36 : decode cX11_isLed 36 = .ok (.iload 4, 2) := by decide +kernel
theorem dX11_isLed_38 : decode cX11_isLed 38 = .ok (.iaload, 1) := by decide +kernel
theorem dX11_isLed_39 : decode cX11_isLed 39 = .ok (.bipush 10, 2) := by decide +kernel
theorem dX11_isLed_41 : decode cX11_isLed 41 = .ok (.if_icmp .ne 16, 3) := by decide +kernel
theorem dX11_isLed_44 : decode cX11_isLed 44 = .ok (.aload_n 0, 1) := by decide +kernel
theorem dX11_isLed_45 : decode cX11_isLed 45 = .ok (.getfield 19, 3) := by decide +kernel
theorem dX11_isLed_48 : decode cX11_isLed 48 = .ok (.iload 4, 2) := by decide +kernel
theorem dX11_isLed_50 : decode cX11_isLed 50 = .ok (.iaload, 1) := by decide +kernel
theorem dX11_isLed_51 : decode cX11_isLed 51 = .ok (.iload_n 2, 1) := by decide +kernel
theorem dX11_isLed_52 : decode cX11_isLed 52 = .ok (.if_icmp .ne 5, 3) := by decide +kernel
theorem dX11_isLed_55 : decode cX11_isLed 55 = .ok (.iconst 1, 1) := by decide +kernel
theorem dX11_isLed_56 : decode cX11_isLed 56 = .ok (.ireturn, 1) := by decide +kernel
theorem dX11_isLed_57 : decode cX11_isLed 57 = .ok (.iinc 3 1, 3) := by decide +kernel
theorem dX11_isLed_60 : decode cX11_isLed 60 = .ok (.goto (-58), 3) := by decide +kernel
theorem dX11_isLed_63 : decode cX11_isLed 63 = .ok (.iconst 0, 1) := by decide +kernel
theorem dX11_isLed_64 : decode cX11_isLed 64 = .ok (.ireturn, 1) := by decide +kernel
theorem dX11_tell_0 : decode cX11_tell 0 = .ok (.aload_n 0, 1) := by decide +kernel
theorem dX11_tell_1 : decode cX11_tell 1 = .ok (.iconst 0, 1) := by decide +kernel
theorem dX11_tell_2 : decode cX11_tell 2 = .ok (.putfield 134, 3) := by decide +kernel
theorem dX11_tell_5 : decode cX11_tell 5 = .ok (.aload_n 0, 1) := by decide +kernel
theorem dX11_tell_6 : decode cX11_tell 6 = .ok (.iload_n 1, 1) := by decide +kernel
theorem dX11_tell_7 : decode cX11_tell 7 = .ok (.invokevirtual 150, 3) := by decide +kernel
theorem dX11_tell_10 : decode cX11_tell 10 = .ok (.ifCond .eq 19, 3) := by decide +kernel
theorem dX11_tell_13 : decode cX11_tell 13 = .ok (.iload_n 2, 1) := by decide +kernel
theorem dX11_tell_14 : decode cX11_tell 14 = .ok (.iconst 0, 1) := by decide +kernel
theorem dX11_tell_15 : decode cX11_tell 15 = .ok (.aload_n 0, 1) := by decide +kernel
theorem dX11_tell_16 : decode cX11_tell 16 = .ok (.getfield 13, 3) := by decide +kernel
theorem dX11_tell_19 : decode cX11_tell 19 = .ok (.iload_n 1, 1) := by decide +kernel
theorem dX11_tell_20 : decode cX11_tell 20 = .ok (.iaload, 1) := by decide +kernel
theorem dX11_tell_21 : decode cX11_tell 21 = .ok (.iconst 1, 1) := by decide +kernel
theorem dX11_tell_22 : decode cX11_tell 22 = .ok (.isub, 1) := by decide +kernel
theorem dX11_tell_23 : decode cX11_tell 23 = .ok (.invokestatic 142, 3) := by decide +kernel
theorem dX11_tell_26 : decode cX11_tell 26 = .ok (.ifCond .ne 5, 3) := by decide +kernel
theorem dX11_tell_29 : decode cX11_tell 29 = .ok (.iconst (-1), 1) := by decide +kernel
theorem dX11_tell_30 : decode cX11_tell 30 = .ok (.ireturn, 1) := by decide +kernel
theorem dX11_tell_31 : decode cX11_tell 31 = .ok (.bipush 40, 2) := by decide +kernel
theorem dX11_tell_33 : decode cX11_tell 33 = .ok (.iload_n 1, 1) := by decide +kernel
theorem dX11_tell_34 : decode cX11_tell 34 = .ok (.imul, 1) := by decide +kernel
theorem dX11_tell_35 : decode cX11_tell 35 = .ok (.iload_n 2, 1) := by decide +kernel
theorem dX11_tell_36 : decode cX11_tell 36 = .ok (.iadd, 1) := by decide +kernel
theorem dX11_tell_37 : decode cX11_tell 37 = .ok (.istore 4, 2) := by decide +kernel
theorem dX11_tell_39 : decode cX11_tell 39 = .ok (.iload_n 3, 1) := by decide +kernel
theorem dX11_tell_40 : decode cX11_tell 40 = .ok (.tableswitch 71 0 3 #[32, 40, 48, 56], 32) := by decide +kernel
theorem dX11_tell_72 : decode cX11_tell 72 = .ok (.aload_n 0, 1) := by decide +kernel
theorem dX11_tell_73 : decode cX11_tell 73 = .ok (.getfield 16, 3) := by decide +kernel
theorem dX11_tell_76 : decode cX11_tell 76 = .ok (.iload 4, 2) := by decide +kernel
theorem dX11_tell_78 : decode cX11_tell 78 = .ok (.iaload, 1) := by decide +kernel
theorem dX11_tell_79 : decode cX11_tell 79 = .ok (.ireturn, 1) := by decide +kernel
theorem dX11_tell_80 : decode cX11_tell 80 = .ok (.aload_n 0, 1) := by decide +kernel
theorem dX11_tell_81 : decode cX11_tell 81 = .ok (.getfield 19, 3) := by decide +kernel
theorem dX11_tell_84 : decode cX11_tell 84 = .ok (.iload 4, 2) := by decide +kernel
theorem dX11_tell_86 : decode cX11_tell 86 = .ok (.iaload, 1) := by decide +kernel
theorem dX11_tell_87 : decode cX11_tell 87 = .ok (.ireturn, 1) := by decide +kernel
theorem dX11_tell_88 : decode cX11_tell 88 = .ok (.aload_n 0, 1) := by decide +kernel
theorem dX11_tell_89 : decode cX11_tell 89 = .ok (.getfield 22, 3) := by decide +kernel
theorem dX11_tell_92 : decode cX11_tell 92 = .ok (.iload 4, 2) := by decide +kernel
theorem dX11_tell_94 : decode cX11_tell 94 = .ok (.iaload, 1) := by decide +kernel
theorem dX11_tell_95 : decode cX11_tell 95 = .ok (.ireturn, 1) := by decide +kernel
theorem dX11_tell_96 : decode cX11_tell 96 = .ok (.aload_n 0, 1) := by decide +kernel
theorem dX11_tell_97 : decode cX11_tell 97 = .ok (.iload_n 1, 1) := by decide +kernel
theorem dX11_tell_98 : decode cX11_tell 98 = .ok (.iload_n 2, 1) := by decide +kernel
theorem dX11_tell_99 : decode cX11_tell 99 = .ok (.invokevirtual 161, 3) := by decide +kernel
theorem dX11_tell_102 : decode cX11_tell 102 = .ok (.ifCond .eq 7, 3) := by decide +kernel
theorem dX11_tell_105 : decode cX11_tell 105 = .ok (.iconst 1, 1) := by decide +kernel
theorem dX11_tell_106 : decode cX11_tell 106 = .ok (.goto 4, 3) := by decide +kernel
theorem dX11_tell_109 : decode cX11_tell 109 = .ok (.iconst 0, 1) := by decide +kernel
theorem dX11_tell_110 : decode cX11_tell 110 = .ok (.ireturn, 1) := by decide +kernel
theorem dX11_tell_111 : decode cX11_tell 111 = .ok (.iconst (-1), 1) := by decide +kernel
theorem dX11_tell_112 : decode cX11_tell 112 = .ok (.ireturn, 1) := by decide +kernel
theorem dX11_isLast_0 : decode cX11_isLast 0 = .ok (.iload_n 0, 1) := by decide +kernel
theorem dX11_isLast_1 : decode cX11_isLast 1 = .ok (.bipush 9, 2) := by decide +kernel
theorem dX11_isLast_3 : decode cX11_isLast 3 = .ok (.if_icmp .eq 15, 3) := by decide +kernel
theorem dX11_isLast_6 : decode cX11_isLast 6 = .ok (.iload_n 0, 1) := by decide +kernel
theorem dX11_isLast_7 : decode cX11_isLast 7 = .ok (.bipush 10, 2) := by decide +kernel
theorem dX11_isLast_9 : decode cX11_isLast 9 = .ok (.if_icmp .eq 9, 3) := by decide +kernel
theorem dX11_isLast_12 : decode cX11_isLast 12 = .ok (.iload_n 0, 1) := by decide +kernel
theorem dX11_isLast_13 : decode cX11_isLast 13 = .ok (.bipush 13, 2) := by decide +kernel
theorem dX11_isLast_15 : decode cX11_isLast 15 = .ok (.if_icmp .ne 7, 3) := by decide +kernel
theorem dX11_isLast_18 : decode cX11_isLast 18 = .ok (.iconst 1, 1) := by decide +kernel
theorem dX11_isLast_19 : decode cX11_isLast 19 = .ok (.goto 4, 3) := by decide +kernel
theorem dX11_isLast_22 : decode cX11_isLast 22 = .ok (.iconst 0, 1) := by decide +kernel
theorem dX11_isLast_23 : decode cX11_isLast 23 = .ok (.ireturn, 1) := by decide +kernel
theorem dX11_join_0 : decode cX11_join 0 = .ok (.aload_n 0, 1) := by decide +kernel
theorem dX11_join_1 : decode cX11_join 1 = .ok (.iconst 0, 1) := by decide +kernel
theorem dX11_join_2 : decode cX11_join 2 = .ok (.putfield 134, 3) := by decide +kernel
theorem dX11_join_5 : decode cX11_join 5 = .ok (.iload_n 1, 1) := by decide +kernel
theorem dX11_join_6 : decode cX11_join 6 = .ok (.iconst 2, 1) := by decide +kernel
theorem dX11_join_7 : decode cX11_join 7 = .ok (.iconst 4, 1) := by decide +kernel
theorem dX11_join_8 : decode cX11_join 8 = .ok (.invokestatic 142, 3) := by decide +kernel
theorem dX11_join_11 : decode cX11_join 11 = .ok (.ifCond .eq 59, 3) := by decide +kernel
theorem dX11_join_14 : decode cX11_join 14 = .ok (.iload_n 2, 1) := by decide +kernel
theorem dX11_join_15 : decode cX11_join 15 = .ok (.iconst 0, 1) := by decide +kernel
theorem dX11_join_16 : decode cX11_join 16 = .ok (.bipush 15, 2) := by decide +kernel
theorem dX11_join_18 : decode cX11_join 18 = .ok (.invokestatic 142, 3) := by decide +kernel
theorem dX11_join_21 : decode cX11_join 21 = .ok (.ifCond .eq 49, 3) := by decide +kernel
theorem dX11_join_24 : decode cX11_join 24 = .ok (.iload_n 3, 1) := by decide +kernel
theorem dX11_join_25 : decode cX11_join 25 = .ok (.iconst 0, 1) := by decide +kernel
theorem dX11_join_26 : decode cX11_join 26 = .ok (.bipush 15, 2) := by decide +kernel
theorem dX11_join_28 : decode cX11_join 28 = .ok (.invokestatic 142, 3) := by decide +kernel
theorem dX11_join_31 : decode cX11_join 31 = .ok (.ifCond .eq 39, 3) := by decide +kernel
theorem dX11_join_34 : decode cX11_join 34 = .ok (.iload_n 1, 1) := by decide +kernel
theorem dX11_join_35 : decode cX11_join 35 = .ok (.iconst 3, 1) := by decide +kernel
theorem dX11_join_36 : decode cX11_join 36 = .ok (.if_icmp .lt 14, 3) := by decide +kernel
theorem dX11_join_39 : decode cX11_join 39 = .ok (.iload 4, 2) := by decide +kernel
theorem dX11_join_41 : decode cX11_join 41 = .ok (.iconst 0, 1) := by decide +kernel
theorem dX11_join_42 : decode cX11_join 42 = .ok (.bipush 15, 2) := by decide +kernel
theorem dX11_join_44 : decode cX11_join 44 = .ok (.invokestatic 142, 3) := by decide +kernel
theorem dX11_join_47 : decode cX11_join 47 = .ok (.ifCond .eq 23, 3) := by decide +kernel
theorem dX11_join_50 : decode cX11_join 50 = .ok (.iload_n 1, 1) := by decide +kernel
theorem dX11_join_51 : decode cX11_join 51 = .ok (.iconst 4, 1) := by decide +kernel
theorem dX11_join_52 : decode cX11_join 52 = .ok (.if_icmp .lt 14, 3) := by decide +kernel
theorem dX11_join_55 : decode cX11_join 55 = .ok (.iload 5, 2) := by decide +kernel
theorem dX11_join_57 : decode cX11_join 57 = .ok (.iconst 0, 1) := by decide +kernel
theorem dX11_join_58 : decode cX11_join 58 = .ok (.bipush 15, 2) := by decide +kernel
theorem dX11_join_60 : decode cX11_join 60 = .ok (.invokestatic 142, 3) := by decide +kernel
theorem dX11_join_63 : decode cX11_join 63 = .ok (.ifCond .eq 7, 3) := by decide +kernel
theorem dX11_join_66 : decode cX11_join 66 = .ok (.iconst 1, 1) := by decide +kernel
theorem dX11_join_67 : decode cX11_join 67 = .ok (.goto 4, 3) := by decide +kernel
theorem dX11_join_70 : decode cX11_join 70 = .ok (.iconst 0, 1) := by decide +kernel
theorem dX11_join_71 : decode cX11_join 71 = .ok (.istore 6, 2) := by decide +kernel
theorem dX11_join_73 : decode cX11_join 73 = .ok (.iload 6, 2) := by decide +kernel
theorem dX11_join_75 : decode cX11_join 75 = .ok (.ifCond .eq 46, 3) := by decide +kernel
theorem dX11_join_78 : decode cX11_join 78 = .ok (.aload_n 0, 1) := by decide +kernel
theorem dX11_join_79 : decode cX11_join 79 = .ok (.getfield 25, 3) := by decide +kernel
theorem dX11_join_82 : decode cX11_join 82 = .ok (.iconst 0, 1) := by decide +kernel
theorem dX11_join_83 : decode cX11_join 83 = .ok (.iaload, 1) := by decide +kernel
theorem dX11_join_84 : decode cX11_join 84 = .ok (.bipush 6, 2) := by decide +kernel
theorem dX11_join_86 : decode cX11_join 86 = .ok (.if_icmp .eq 35, 3) := by decide +kernel
theorem dX11_join_89 : decode cX11_join 89 = .ok (.iload_n 2, 1) := by decide +kernel
theorem dX11_join_90 : decode cX11_join 90 = .ok (.invokestatic 164, 3) := by decide +kernel
theorem dX11_join_93 : decode cX11_join 93 = .ok (.ifCond .ne 28, 3) := by decide +kernel
theorem dX11_join_96 : decode cX11_join 96 = .ok (.iload_n 1, 1) := by decide +kernel
theorem dX11_join_97 : decode cX11_join 97 = .ok (.iconst 2, 1) := by decide +kernel
theorem dX11_join_98 : decode cX11_join 98 = .ok (.if_icmp .le 10, 3) := by decide +kernel
theorem dX11_join_101 : decode cX11_join 101 = .ok (.iload_n 3, 1) := by decide +kernel
theorem dX11_join_102 : decode cX11_join 102 = .ok (.invokestatic 164, 3) := by decide +kernel
theorem dX11_join_105 : decode cX11_join 105 = .ok (.ifCond .ne 16, 3) := by decide +kernel
theorem dX11_join_108 : decode cX11_join 108 = .ok (.iload_n 1, 1) := by decide +kernel
theorem dX11_join_109 : decode cX11_join 109 = .ok (.iconst 3, 1) := by decide +kernel
theorem dX11_join_110 : decode cX11_join 110 = .ok (.if_icmp .le 13, 3) := by decide +kernel
theorem dX11_join_113 : decode cX11_join 113 = .ok (.iload 4, 2) := by decide +kernel
theorem dX11_join_115 : decode cX11_join 115 = .ok (.invokestatic 164, 3) := by decide +kernel
theorem dX11_join_118 : decode cX11_join 118 = .ok (.ifCond .eq 5, 3) := by decide +kernel
theorem dX11_join_121 : decode cX11_join 121 = .ok (.iconst (-1), 1) := by decide +kernel
theorem dX11_join_122 : decode cX11_join 122 = .ok (.ireturn, 1) := by decide +kernel
theorem dX11_join_123 : decode cX11_join 123 = .ok (.iconst 5, 1) := by decide +kernel
theorem dX11_join_124 : decode cX11_join 124 = .ok (.aload_n 0, 1) := by decide +kernel
theorem dX11_join_125 : decode cX11_join 125 = .ok (.getfield 25, 3) := by decide +kernel
theorem dX11_join_128 : decode cX11_join 128 = .ok (.iconst 0, 1) := by decide +kernel
theorem dX11_join_129 : decode cX11_join 129 = .ok (.iaload, 1) := by decide +kernel
theorem dX11_join_130 : decode cX11_join 130 = .ok (.imul, 1) := by decide +kernel
theorem dX11_join_131 : decode cX11_join 131 = .ok (.istore 7, 2) := by decide +kernel
theorem dX11_join_133 : decode cX11_join 133 = .ok (.aload_n 0, 1) := by decide +kernel
theorem dX11_join_134 : decode cX11_join 134 = .ok (.getfield 28, 3) := by decide +kernel
theorem dX11_join_137 : decode cX11_join 137 = .ok (.iload 7, 2) := by decide +kernel
theorem dX11_join_139 : decode cX11_join 139 = .ok (.iload_n 1, 1) := by decide +kernel
theorem dX11_join_140 : decode cX11_join 140 = .ok (.iastore, 1) := by decide +kernel
theorem dX11_join_141 : decode cX11_join 141 = .ok (.aload_n 0, 1) := by decide +kernel
theorem dX11_join_142 : decode cX11_join 142 = .ok (.getfield 28, 3) := by decide +kernel
theorem dX11_join_145 : decode cX11_join 145 = .ok (.iload 7, 2) := by decide +kernel
theorem dX11_join_147 : decode cX11_join 147 = .ok (.iconst 1, 1) := by decide +kernel
theorem dX11_join_148 : decode cX11_join 148 = .ok (.iadd, 1) := by decide +kernel
theorem dX11_join_149 : decode cX11_join 149 = .ok (.iload_n 2, 1) := by decide +kernel
theorem dX11_join_150 : decode cX11_join 150 = .ok (.iastore, 1) := by decide +kernel
theorem dX11_join_151 : decode cX11_join 151 = .ok (.aload_n 0, 1) := by decide +kernel
theorem dX11_join_152 : decode cX11_join 152 = .ok (.getfield 28, 3) := by decide +kernel
theorem dX11_join_155 : decode cX11_join 155 = .ok (.iload 7, 2) := by decide +kernel
theorem dX11_join_157 : decode cX11_join 157 = .ok (.iconst 2, 1) := by decide +kernel
theorem dX11_join_158 : decode cX11_join 158 = .ok (.iadd, 1) := by decide +kernel
theorem dX11_join_159 : decode cX11_join 159 = .ok (.iload_n 3, 1) := by decide +kernel
theorem dX11_join_160 : decode cX11_join 160 = .ok (.iastore, 1) := by decide +kernel
theorem dX11_join_161 : decode cX11_join 161 = .ok (.aload_n 0, 1) := by decide +kernel
theorem dX11_join_162 : decode cX11_join 162 = .ok (.getfield 28, 3) := by decide +kernel
theorem dX11_join_165 : decode cX11_join 165 = .ok (.iload 7, 2) := by decide +kernel
theorem dX11_join_167 : decode cX11_join 167 = .ok (.iconst 3, 1) := by decide +kernel
theorem dX11_join_168 : decode cX11_join 168 = .ok (.iadd, 1) := by decide +kernel
theorem dX11_join_169 : decode cX11_join 169 = .ok (.iload_n 1, 1) := by decide +kernel
theorem dX11_join_170 : decode cX11_join 170 = .ok (.iconst 2, 1) := by decide +kernel
theorem dX11_join_171 : decode cX11_join 171 = .ok (.if_icmp .le 8, 3) := by decide +kernel
theorem dX11_join_174 : decode cX11_join 174 = .ok (.iload 4, 2) := by decide +kernel
theorem dX11_join_176 : decode cX11_join 176 = .ok (.goto 4, 3) := by decide +kernel
theorem dX11_join_179 : decode cX11_join 179 = .ok (.iconst 0, 1) := by decide +kernel
theorem dX11_join_180 : decode cX11_join 180 = .ok (.iastore, 1) := by decide +kernel
theorem dX11_join_181 : decode cX11_join 181 = .ok (.aload_n 0, 1) := by decide +kernel
theorem dX11_join_182 : decode cX11_join 182 = .ok (.getfield 28, 3) := by decide +kernel
theorem dX11_join_185 : decode cX11_join 185 = .ok (.iload 7, 2) := by decide +kernel
theorem dX11_join_187 : decode cX11_join 187 = .ok (.iconst 4, 1) := by decide +kernel
theorem dX11_join_188 : decode cX11_join 188 = .ok (.iadd, 1) := by decide +kernel
theorem dX11_join_189 : decode cX11_join 189 = .ok (.iload_n 1, 1) := by decide +kernel
theorem dX11_join_190 : decode cX11_join 190 = .ok (.iconst 3, 1) := by decide +kernel
theorem dX11_join_191 : decode cX11_join 191 = .ok (.if_icmp .le 8, 3) := by decide +kernel
theorem dX11_join_194 : decode cX11_join 194 = .ok (.iload 5, 2) := by decide +kernel
theorem dX11_join_196 : decode cX11_join 196 = .ok (.goto 4, 3) := by decide +kernel
theorem dX11_join_199 : decode cX11_join 199 = .ok (.iconst 0, 1) := by decide +kernel
theorem dX11_join_200 : decode cX11_join 200 = .ok (.iastore, 1) := by decide +kernel
theorem dX11_join_201 : decode cX11_join 201 = .ok (.iconst 0, 1) := by decide +kernel
theorem dX11_join_202 : decode cX11_join 202 = .ok (.istore 8, 2) := by decide +kernel
theorem dX11_join_204 : decode cX11_join 204 = .ok (.iload 8, 2) := by decide +kernel
theorem dX11_join_206 : decode cX11_join 206 = .ok (.aload_n 0, 1) := by decide +kernel
theorem dX11_join_207 : decode cX11_join 207 = .ok (.getfield 25, 3) := by decide +kernel
theorem dX11_join_210 : decode cX11_join 210 = .ok (.iconst 0, 1) := by decide +kernel
theorem dX11_join_211 : decode cX11_join 211 = .ok (.iaload, 1) := by decide +kernel
theorem dX11_join_212 : decode cX11_join 212 = .ok (.if_icmp .ge 71, 3) := by decide +kernel
theorem dX11_join_215 : decode cX11_join 215 = .ok (.iconst 1, 1) := by decide +kernel
theorem dX11_join_216 : decode cX11_join 216 = .ok (.istore 9, 2) := by decide +kernel
theorem dX11_join_218 : decode cX11_join 218 = .ok (.iconst 0, 1) := by decide +kernel
theorem dX11_join_219 : decode cX11_join 219 = .ok (.istore 10, 2) := by decide +kernel
theorem dX11_join_221 : decode cX11_join 221 = .ok (.iload 10, 2) := by decide +kernel
theorem dX11_join_223 : decode cX11_join 223 = .ok (.iconst 5, 1) := by decide +kernel
theorem dX11_join_224 : decode cX11_join 224 = .ok (.if_icmp .ge 46, 3) := by decide +kernel
theorem dX11_join_227 : decode cX11_join 227 = .ok (.iload 9, 2) := by decide +kernel
theorem dX11_join_229 : decode cX11_join 229 = .ok (.ifCond .eq 32, 3) := by decide +kernel
theorem dX11_join_232 : decode cX11_join 232 = .ok (.aload_n 0, 1) := by decide +kernel
theorem dX11_join_233 : decode cX11_join 233 = .ok (.getfield 28, 3) := by decide +kernel
theorem dX11_join_236 : decode cX11_join 236 = .ok (.iconst 5, 1) := by decide +kernel
theorem dX11_join_237 : decode cX11_join 237 = .ok (.iload 8, 2) := by decide +kernel
theorem dX11_join_239 : decode cX11_join 239 = .ok (.imul, 1) := by decide +kernel
theorem dX11_join_240 : decode cX11_join 240 = .ok (.iload 10, 2) := by decide +kernel
theorem dX11_join_242 : decode cX11_join 242 = .ok (.iadd, 1) := by decide +kernel
theorem dX11_join_243 : decode cX11_join 243 = .ok (.iaload, 1) := by decide +kernel
theorem dX11_join_244 : decode cX11_join 244 = .ok (.aload_n 0, 1) := by decide +kernel
theorem dX11_join_245 : decode cX11_join 245 = .ok (.getfield 28, 3) := by decide +kernel
theorem dX11_join_248 : decode cX11_join 248 = .ok (.iload 7, 2) := by decide +kernel
theorem dX11_join_250 : decode cX11_join 250 = .ok (.iload 10, 2) := by decide +kernel
theorem dX11_join_252 : decode cX11_join 252 = .ok (.iadd, 1) := by decide +kernel
theorem dX11_join_253 : decode cX11_join 253 = .ok (.iaload, 1) := by decide +kernel
theorem dX11_join_254 : decode cX11_join 254 = .ok (.if_icmp .ne 7, 3) := by decide +kernel
theorem dX11_join_257 : decode cX11_join 257 = .ok (.iconst 1, 1) := by decide +kernel
theorem dX11_join_258 : decode cX11_join 258 = .ok (.goto 4, 3) := by decide +kernel
theorem dX11_join_261 : decode cX11_join 261 = .ok (.iconst 0, 1) := by decide +kernel
theorem dX11_join_262 : decode cX11_join 262 = .ok (.istore 9, 2) := by decide +kernel
theorem dX11_join_264 : decode cX11_join 264 = .ok (.iinc 10 1, 3) := by decide +kernel
theorem dX11_join_267 : decode cX11_join 267 = .ok (.goto (-46), 3) := by decide +kernel
theorem dX11_join_270 : decode cX11_join 270 = .ok (.iload 9, 2) := by decide +kernel
theorem dX11_join_272 : decode cX11_join 272 = .ok (.ifCond .eq 5, 3) := by decide +kernel
theorem dX11_join_275 : decode cX11_join 275 = .ok (.iconst (-1), 1) := by decide +kernel
theorem dX11_join_276 : decode cX11_join 276 = .ok (.ireturn, 1) := by decide +kernel
theorem dX11_join_277 : decode cX11_join 277 = .ok (.iinc 8 1, 3) := by decide +kernel
theorem dX11_join_280 : decode cX11_join 280 = .ok (.goto (-76), 3) := by decide +kernel
theorem dX11_join_283 : decode cX11_join 283 = .ok (.aload_n 0, 1) := by decide +kernel
theorem dX11_join_284 : decode cX11_join 284 = .ok (.getfield 25, 3) := by decide +kernel
theorem dX11_join_287 : decode cX11_join 287 = .ok (.iconst 0, 1) := by decide +kernel
theorem dX11_join_288 : decode cX11_join 288 = .ok (.dup2, 1) := by decide +kernel
theorem dX11_join_289 : decode cX11_join 289 = .ok (.iaload, 1) := by decide +kernel
theorem dX11_join_290 : decode cX11_join 290 = .ok (.iconst 1, 1) := by decide +kernel
theorem dX11_join_291 : decode cX11_join 291 = .ok (.iadd, 1) := by decide +kernel
theorem dX11_join_292 : decode cX11_join 292 = .ok (.iastore, 1) := by decide +kernel
theorem dX11_join_293 : decode cX11_join 293 = .ok (.aload_n 0, 1) := by decide +kernel
theorem dX11_join_294 : decode cX11_join 294 = .ok (.getfield 25, 3) := by decide +kernel
theorem dX11_join_297 : decode cX11_join 297 = .ok (.iconst 0, 1) := by decide +kernel
theorem dX11_join_298 : decode cX11_join 298 = .ok (.iaload, 1) := by decide +kernel
theorem dX11_join_299 : decode cX11_join 299 = .ok (.iconst 1, 1) := by decide +kernel
theorem dX11_join_300 : decode cX11_join 300 = .ok (.isub, 1) := by decide +kernel
theorem dX11_join_301 : decode cX11_join 301 = .ok (.ireturn, 1) := by decide +kernel
theorem dX11_part_0 : decode cX11_part 0 = .ok (.aload_n 0, 1) := by decide +kernel
theorem dX11_part_1 : decode cX11_part 1 = .ok (.iconst 0, 1) := by decide +kernel
theorem dX11_part_2 : decode cX11_part 2 = .ok (.putfield 134, 3) := by decide +kernel
theorem dX11_part_5 : decode cX11_part 5 = .ok (.aload_n 0, 1) := by decide +kernel
theorem dX11_part_6 : decode cX11_part 6 = .ok (.getfield 25, 3) := by decide +kernel
theorem dX11_part_9 : decode cX11_part 9 = .ok (.iconst 0, 1) := by decide +kernel
theorem dX11_part_10 : decode cX11_part 10 = .ok (.iconst 0, 1) := by decide +kernel
theorem dX11_part_11 : decode cX11_part 11 = .ok (.iastore, 1) := by decide +kernel
theorem dX11_part_12 : decode cX11_part 12 = .ok (.return_, 1) := by decide +kernel
theorem dX11_joined_0 : decode cX11_joined 0 = .ok (.aload_n 0, 1) := by decide +kernel
theorem dX11_joined_1 : decode cX11_joined 1 = .ok (.iconst 0, 1) := by decide +kernel
theorem dX11_joined_2 : decode cX11_joined 2 = .ok (.putfield 134, 3) := by decide +kernel
theorem dX11_joined_5 : decode cX11_joined 5 = .ok (.iload_n 1, 1) := by decide +kernel
theorem dX11_joined_6 : decode cX11_joined 6 = .ok (.iconst 0, 1) := by decide +kernel
theorem dX11_joined_7 : decode cX11_joined 7 = .ok (.aload_n 0, 1) := by decide +kernel
theorem dX11_joined_8 : decode cX11_joined 8 = .ok (.getfield 25, 3) := by decide +kernel
theorem dX11_joined_11 : decode cX11_joined 11 = .ok (.iconst 0, 1) := by decide +kernel
theorem dX11_joined_12 : decode cX11_joined 12 = .ok (.iaload, 1) := by decide +kernel
theorem dX11_joined_13 : decode cX11_joined 13 = .ok (.iconst 1, 1) := by decide +kernel
theorem dX11_joined_14 : decode cX11_joined 14 = .ok (.isub, 1) := by decide +kernel
theorem dX11_joined_15 : decode cX11_joined 15 = .ok (.invokestatic 142, 3) := by decide +kernel
theorem dX11_joined_18 : decode cX11_joined 18 = .ok (.ifCond .eq 36, 3) := by decide +kernel
theorem dX11_joined_21 : decode cX11_joined 21 = .ok (.iload_n 2, 1) := by decide +kernel
theorem dX11_joined_22 : decode cX11_joined 22 = .ok (.iconst 0, 1) := by decide +kernel
theorem dX11_joined_23 : decode cX11_joined 23 = .ok (.aload_n 0, 1) := by decide +kernel
theorem dX11_joined_24 : decode cX11_joined 24 = .ok (.getfield 28, 3) := by decide +kernel
theorem dX11_joined_27 : decode cX11_joined 27 = .ok (.iconst 5, 1) := by decide +kernel
theorem dX11_joined_28 : decode cX11_joined 28 = .ok (.iload_n 1, 1) := by decide +kernel
theorem dX11_joined_29 : decode cX11_joined 29 = .ok (.imul, 1) := by decide +kernel
theorem dX11_joined_30 : decode cX11_joined 30 = .ok (.iaload, 1) := by decide +kernel
theorem dX11_joined_31 : decode cX11_joined 31 = .ok (.iconst 1, 1) := by decide +kernel
theorem dX11_joined_32 : decode cX11_joined 32 = .ok (.isub, 1) := by decide +kernel
theorem dX11_joined_33 : decode cX11_joined 33 = .ok (.invokestatic 142, 3) := by decide +kernel
theorem dX11_joined_36 : decode cX11_joined 36 = .ok (.ifCond .eq 18, 3) := by decide +kernel
theorem dX11_joined_39 : decode cX11_joined 39 = .ok (.aload_n 0, 1) := by decide +kernel
theorem dX11_joined_40 : decode cX11_joined 40 = .ok (.getfield 28, 3) := by decide +kernel
theorem dX11_joined_43 : decode cX11_joined 43 = .ok (.iconst 5, 1) := by decide +kernel
theorem dX11_joined_44 : decode cX11_joined 44 = .ok (.iload_n 1, 1) := by decide +kernel
theorem dX11_joined_45 : decode cX11_joined 45 = .ok (.imul, 1) := by decide +kernel
theorem dX11_joined_46 : decode cX11_joined 46 = .ok (.iconst 1, 1) := by decide +kernel
theorem dX11_joined_47 : decode cX11_joined 47 = .ok (.iadd, 1) := by decide +kernel
theorem dX11_joined_48 : decode cX11_joined 48 = .ok (.iload_n 2, 1) := by decide +kernel
theorem dX11_joined_49 : decode cX11_joined 49 = .ok (.iadd, 1) := by decide +kernel
theorem dX11_joined_50 : decode cX11_joined 50 = .ok (.iaload, 1) := by decide +kernel
theorem dX11_joined_51 : decode cX11_joined 51 = .ok (.goto 4, 3) := by decide +kernel
theorem dX11_joined_54 : decode cX11_joined 54 = .ok (.iconst (-1), 1) := by decide +kernel
theorem dX11_joined_55 : decode cX11_joined 55 = .ok (.ireturn, 1) := by decide +kernel
theorem dX11_readLed_0 : decode cX11_readLed 0 = .ok (.iconst 0, 1) := by decide +kernel
theorem dX11_readLed_1 : decode cX11_readLed 1 = .ok (.istore_n 2, 1) := by decide +kernel
theorem dX11_readLed_2 : decode cX11_readLed 2 = .ok (.iload_n 2, 1) := by decide +kernel
theorem dX11_readLed_3 : decode cX11_readLed 3 = .ok (.bipush 40, 2) := by decide +kernel
theorem dX11_readLed_5 : decode cX11_readLed 5 = .ok (.if_icmp .gt 16, 3) := by decide +kernel
theorem dX11_readLed_8 : decode cX11_readLed 8 = .ok (.aload_n 0, 1) := by decide +kernel
theorem dX11_readLed_9 : decode cX11_readLed 9 = .ok (.getfield 94, 3) := by decide +kernel
theorem dX11_readLed_12 : decode cX11_readLed 12 = .ok (.iload_n 2, 1) := by decide +kernel
theorem dX11_readLed_13 : decode cX11_readLed 13 = .ok (.iconst 0, 1) := by decide +kernel
theorem dX11_readLed_14 : decode cX11_readLed 14 = .ok (.bastore, 1) := by decide +kernel
theorem dX11_readLed_15 : decode cX11_readLed 15 = .ok (.iinc 2 1, 3) := by decide +kernel
theorem dX11_readLed_18 : decode cX11_readLed 18 = .ok (.goto (-16), 3) := by decide +kernel
theorem dX11_readLed_21 : decode cX11_readLed 21 = .ok (.iconst 0, 1) := by decide +kernel
theorem dX11_readLed_22 : decode cX11_readLed 22 = .ok (.istore_n 2, 1) := by decide +kernel
theorem dX11_readLed_23 : decode cX11_readLed 23 = .ok (.iload_n 2, 1) := by decide +kernel
theorem dX11_readLed_24 : decode cX11_readLed 24 = .ok (.aload_n 0, 1) := by decide +kernel
theorem dX11_readLed_25 : decode cX11_readLed 25 = .ok (.getfield 13, 3) := by decide +kernel
theorem dX11_readLed_28 : decode cX11_readLed 28 = .ok (.iload_n 1, 1) := by decide +kernel
theorem dX11_readLed_29 : decode cX11_readLed 29 = .ok (.iaload, 1) := by decide +kernel
theorem dX11_readLed_30 : decode cX11_readLed 30 = .ok (.if_icmp .ge 50, 3) := by decide +kernel
theorem dX11_readLed_33 : decode cX11_readLed 33 = .ok (.bipush 40, 2) := by decide +kernel
theorem dX11_readLed_35 : decode cX11_readLed 35 = .ok (.iload_n 1, 1) := by decide +kernel
theorem dX11_readLed_36 : decode cX11_readLed 36 = .ok (.imul, 1) := by decide +kernel
theorem dX11_readLed_37 : decode cX11_readLed 37 = .ok (.iload_n 2, 1) := by decide +kernel
theorem dX11_readLed_38 : decode cX11_readLed 38 = .ok (.iadd, 1) := by decide +kernel
theorem dX11_readLed_39 : decode cX11_readLed 39 = .ok (.istore_n 3, 1) := by decide +kernel
theorem dX11_readLed_40 : decode cX11_readLed 40 = .ok (.aload_n 0, 1) := by decide +kernel
theorem dX11_readLed_41 : decode cX11_readLed 41 = .ok (.getfield 16, 3) := by decide +kernel
theorem dX11_readLed_44 : decode cX11_readLed 44 = .ok (.iload_n 3, 1) := by decide +kernel
theorem dX11_readLed_45 : decode cX11_readLed 45 = .ok (.iaload, 1) := by decide +kernel
theorem dX11_readLed_46 : decode cX11_readLed 46 = .ok (.bipush 9, 2) := by decide +kernel
theorem dX11_readLed_48 : decode cX11_readLed 48 = .ok (.if_icmp .eq 14, 3) := by decide +kernel
theorem dX11_readLed_51 : decode cX11_readLed 51 = .ok (.aload_n 0, 1) := by decide +kernel
theorem dX11_readLed_52 : decode cX11_readLed 52 = .ok (.getfield 16, 3) := by decide +kernel
theorem dX11_readLed_55 : decode cX11_readLed 55 = .ok (.iload_n 3, 1) := by decide +kernel
theorem dX11_readLed_56 : decode cX11_readLed 56 = .ok (.iaload, 1) := by decide +kernel
theorem dX11_readLed_57 : decode cX11_readLed 57 = .ok (.bipush 10, 2) := by decide +kernel
theorem dX11_readLed_59 : decode cX11_readLed 59 = .ok (.if_icmp .ne 15, 3) := by decide +kernel
theorem dX11_readLed_62 : decode cX11_readLed 62 = .ok (.aload_n 0, 1) := by decide +kernel
theorem dX11_readLed_63 : decode cX11_readLed 63 = .ok (.getfield 94, 3) := by decide +kernel
theorem dX11_readLed_66 : decode cX11_readLed 66 = .ok (.aload_n 0, 1) := by decide +kernel
theorem dX11_readLed_67 : decode cX11_readLed 67 = .ok (.getfield 19, 3) := by decide +kernel
theorem dX11_readLed_70 : decode cX11_readLed 70 = .ok (.iload_n 3, 1) := by decide +kernel
theorem dX11_readLed_71 : decode cX11_readLed 71 = .ok (.iaload, 1) := by decide +kernel
theorem dX11_readLed_72 : decode cX11_readLed 72 = .ok (.iconst 1, 1) := by decide +kernel
theorem dX11_readLed_73 : decode cX11_readLed 73 = .ok (.bastore, 1) := by decide +kernel
theorem dX11_readLed_74 : decode cX11_readLed 74 = .ok (.iinc 2 1, 3) := by decide +kernel
theorem dX11_readLed_77 : decode cX11_readLed 77 = .ok (.goto (-54), 3) := by decide +kernel
theorem dX11_readLed_80 : decode cX11_readLed 80 = .ok (.return_, 1) := by decide +kernel
theorem dX11_stands_0 : decode cX11_stands 0 = .ok (.aload_n 0, 1) := by decide +kernel
theorem dX11_stands_1 : decode cX11_stands 1 = .ok (.getfield 91, 3) := by decide +kernel
theorem dX11_stands_4 : decode cX11_stands 4 = .ok (.iload_n 3, 1) := by decide +kernel
theorem dX11_stands_5 : decode cX11_stands 5 = .ok (.iaload, 1) := by decide +kernel
theorem dX11_stands_6 : decode cX11_stands 6 = .ok (.istore 4, 2) := by decide +kernel
theorem dX11_stands_8 : decode cX11_stands 8 = .ok (.iload_n 2, 1) := by decide +kernel
theorem dX11_stands_9 : decode cX11_stands 9 = .ok (.iload 4, 2) := by decide +kernel
theorem dX11_stands_11 : decode cX11_stands 11 = .ok (.iadd, 1) := by decide +kernel
theorem dX11_stands_12 : decode cX11_stands 12 = .ok (.aload_n 0, 1) := by decide +kernel
theorem dX11_stands_13 : decode cX11_stands 13 = .ok (.getfield 13, 3) := by decide +kernel
theorem dX11_stands_16 : decode cX11_stands 16 = .ok (.iload_n 1, 1) := by decide +kernel
theorem dX11_stands_17 : decode cX11_stands 17 = .ok (.iaload, 1) := by decide +kernel
theorem dX11_stands_18 : decode cX11_stands 18 = .ok (.if_icmp .le 5, 3) := by decide +kernel
theorem dX11_stands_21 : decode cX11_stands 21 = .ok (.iconst 0, 1) := by decide +kernel
theorem dX11_stands_22 : decode cX11_stands 22 = .ok (.ireturn, 1) := by decide +kernel
theorem dX11_stands_23 : decode cX11_stands 23 = .ok (.iconst 0, 1) := by decide +kernel
theorem dX11_stands_24 : decode cX11_stands 24 = .ok (.istore 5, 2) := by decide +kernel
theorem dX11_stands_26 : decode cX11_stands 26 = .ok (.iload 5, 2) := by decide +kernel
theorem dX11_stands_28 : decode cX11_stands 28 = .ok (.iload 4, 2) := by decide +kernel
theorem dX11_stands_30 : decode cX11_stands 30 = .ok (.if_icmp .ge 56, 3) := by decide +kernel
theorem dX11_stands_33 : decode cX11_stands 33 = .ok (.aload_n 0, 1) := by decide +kernel
theorem dX11_stands_34 : decode cX11_stands 34 = .ok (.getfield 16, 3) := by decide +kernel
theorem dX11_stands_37 : decode cX11_stands 37 = .ok (.bipush 40, 2) := by decide +kernel
theorem dX11_stands_39 : decode cX11_stands 39 = .ok (.iload_n 1, 1) := by decide +kernel
theorem dX11_stands_40 : decode cX11_stands 40 = .ok (.imul, 1) := by decide +kernel
theorem dX11_stands_41 : decode cX11_stands 41 = .ok (.iload_n 2, 1) := by decide +kernel
theorem dX11_stands_42 : decode cX11_stands 42 = .ok (.iadd, 1) := by decide +kernel
theorem dX11_stands_43 : decode cX11_stands 43 = .ok (.iload 5, 2) := by decide +kernel
theorem dX11_stands_45 : decode cX11_stands 45 = .ok (.iadd, 1) := by decide +kernel
theorem dX11_stands_46 : decode cX11_stands 46 = .ok (.iaload, 1) := by decide +kernel
theorem dX11_stands_47 : decode cX11_stands 47 = .ok (.aload_n 0, 1) := by decide +kernel
theorem dX11_stands_48 : decode cX11_stands 48 = .ok (.getfield 91, 3) := by decide +kernel
theorem dX11_stands_51 : decode cX11_stands 51 = .ok (.iload_n 3, 1) := by decide +kernel
theorem dX11_stands_52 : decode cX11_stands 52 = .ok (.iconst 1, 1) := by decide +kernel
theorem dX11_stands_53 : decode cX11_stands 53 = .ok (.iadd, 1) := by decide +kernel
theorem dX11_stands_54 : decode cX11_stands 54 = .ok (.iload 5, 2) := by decide +kernel
theorem dX11_stands_56 : decode cX11_stands 56 = .ok (.iadd, 1) := by decide +kernel
theorem dX11_stands_57 : decode cX11_stands 57 = .ok (.iaload, 1) := by decide +kernel
theorem dX11_stands_58 : decode cX11_stands 58 = .ok (.if_icmp .ne 20, 3) := by decide +kernel
theorem dX11_stands_61 : decode cX11_stands 61 = .ok (.iload 5, 2) := by decide +kernel
theorem dX11_stands_63 : decode cX11_stands 63 = .ok (.ifCond .le 17, 3) := by decide +kernel
theorem dX11_stands_66 : decode cX11_stands 66 = .ok (.aload_n 0, 1) := by decide +kernel
theorem dX11_stands_67 : decode cX11_stands 67 = .ok (.getfield 94, 3) := by decide +kernel
theorem dX11_stands_70 : decode cX11_stands 70 = .ok (.iload_n 2, 1) := by decide +kernel
theorem dX11_stands_71 : decode cX11_stands 71 = .ok (.iload 5, 2) := by decide +kernel
theorem dX11_stands_73 : decode cX11_stands 73 = .ok (.iadd, 1) := by decide +kernel
theorem dX11_stands_74 : decode cX11_stands 74 = .ok (.baload, 1) := by decide +kernel
theorem dX11_stands_75 : decode cX11_stands 75 = .ok (.ifCond .eq 5, 3) := by decide +kernel
theorem dX11_stands_78 : decode cX11_stands 78 = .ok (.iconst 0, 1) := by decide +kernel
theorem dX11_stands_79 : decode cX11_stands 79 = .ok (.ireturn, 1) := by decide +kernel
theorem dX11_stands_80 : decode cX11_stands 80 = .ok (.iinc 5 1, 3) := by decide +kernel
theorem dX11_stands_83 : decode cX11_stands 83 = .ok (.goto (-57), 3) := by decide +kernel
theorem dX11_stands_86 : decode cX11_stands 86 = .ok (.iconst 1, 1) := by decide +kernel
theorem dX11_stands_87 : decode cX11_stands 87 = .ok (.ireturn, 1) := by decide +kernel
theorem dX11_findLeast_0 : decode cX11_findLeast 0 = .ok (.aload_n 0, 1) := by decide +kernel
theorem dX11_findLeast_1 : decode cX11_findLeast 1 = .ok (.iload_n 1, 1) := by decide +kernel
theorem dX11_findLeast_2 : decode cX11_findLeast 2 = .ok (.invokevirtual 167, 3) := by decide +kernel
theorem dX11_findLeast_5 : decode cX11_findLeast 5 = .ok (.aload_n 0, 1) := by decide +kernel
theorem dX11_findLeast_6 : decode cX11_findLeast 6 = .ok (.getfield 98, 3) := by decide +kernel
theorem dX11_findLeast_9 : decode cX11_findLeast 9 = .ok (.aload_n 0, 1) := by decide +kernel
theorem dX11_findLeast_10 : decode cX11_findLeast 10 = .ok (.getfield 13, 3) := by decide +kernel
theorem dX11_findLeast_13 : decode cX11_findLeast 13 = .ok (.iload_n 1, 1) := by decide +kernel
theorem dX11_findLeast_14 : decode cX11_findLeast 14 = .ok (.iaload, 1) := by decide +kernel
theorem dX11_findLeast_15 : decode cX11_findLeast 15 = .ok (.iconst 0, 1) := by decide +kernel
theorem dX11_findLeast_16 : decode cX11_findLeast 16 = .ok (.iastore, 1) := by decide +kernel
theorem dX11_findLeast_17 : decode cX11_findLeast 17 = .ok (.aload_n 0, 1) := by decide +kernel
theorem dX11_findLeast_18 : decode cX11_findLeast 18 = .ok (.getfield 13, 3) := by decide +kernel
theorem dX11_findLeast_21 : decode cX11_findLeast 21 = .ok (.iload_n 1, 1) := by decide +kernel
theorem dX11_findLeast_22 : decode cX11_findLeast 22 = .ok (.iaload, 1) := by decide +kernel
theorem dX11_findLeast_23 : decode cX11_findLeast 23 = .ok (.iconst 1, 1) := by decide +kernel
theorem dX11_findLeast_24 : decode cX11_findLeast 24 = .ok (.isub, 1) := by decide +kernel
theorem dX11_findLeast_25 : decode cX11_findLeast 25 = .ok (.istore_n 3, 1) := by decide +kernel
theorem dX11_findLeast_26 : decode cX11_findLeast 26 = .ok (.iload_n 3, 1) := by decide +kernel
theorem dX11_findLeast_27 : decode cX11_findLeast 27 = .ok (.ifCond .lt 120, 3) := by decide +kernel
theorem dX11_findLeast_30 : decode cX11_findLeast 30 = .ok (.iload_n 2, 1) := by decide +kernel
theorem dX11_findLeast_31 : decode cX11_findLeast 31 = .ok (.iconst 1, 1) := by decide +kernel
theorem dX11_findLeast_32 : decode cX11_findLeast 32 = .ok (.if_icmp .ne 17, 3) := by decide +kernel
theorem dX11_findLeast_35 : decode cX11_findLeast 35 = .ok (.aload_n 0, 1) := by decide +kernel
theorem dX11_findLeast_36 : decode cX11_findLeast 36 = .ok (.getfield 22, 3) := by decide +kernel
theorem dX11_findLeast_39 : decode cX11_findLeast 39 = .ok (.bipush 40, 2) := by decide +kernel
theorem dX11_findLeast_41 : decode cX11_findLeast 41 = .ok (.iload_n 1, 1) := by decide +kernel
theorem dX11_findLeast_42 : decode cX11_findLeast 42 = .ok (.imul, 1) := by decide +kernel
theorem dX11_findLeast_43 : decode cX11_findLeast 43 = .ok (.iload_n 3, 1) := by decide +kernel
theorem dX11_findLeast_44 : decode cX11_findLeast 44 = .ok (.iadd, 1) := by decide +kernel
theorem dX11_findLeast_45 : decode cX11_findLeast 45 = .ok (.iaload, 1) := by decide +kernel
theorem dX11_findLeast_46 : decode cX11_findLeast 46 = .ok (.goto 4, 3) := by decide +kernel
theorem dX11_findLeast_49 : decode cX11_findLeast 49 = .ok (.iconst 1, 1) := by decide +kernel
theorem dX11_findLeast_50 : decode cX11_findLeast 50 = .ok (.istore 4, 2) := by decide +kernel
theorem dX11_findLeast_52 : decode cX11_findLeast 52 = .ok (.iload 4, 2) := by decide +kernel
theorem dX11_findLeast_54 : decode cX11_findLeast 54 = .ok (.aload_n 0, 1) := by decide +kernel
theorem dX11_findLeast_55 : decode cX11_findLeast 55 = .ok (.getfield 98, 3) := by decide +kernel
theorem dX11_findLeast_58 : decode cX11_findLeast 58 = .ok (.iload_n 3, 1) := by decide +kernel
theorem dX11_findLeast_59 : decode cX11_findLeast 59 = .ok (.iconst 1, 1) := by decide +kernel
theorem dX11_findLeast_60 : decode cX11_findLeast 60 = .ok (.iadd, 1) := by decide +kernel
theorem dX11_findLeast_61 : decode cX11_findLeast 61 = .ok (.iaload, 1) := by decide +kernel
theorem dX11_findLeast_62 : decode cX11_findLeast 62 = .ok (.iadd, 1) := by decide +kernel
theorem dX11_findLeast_63 : decode cX11_findLeast 63 = .ok (.istore 5, 2) := by decide +kernel
theorem dX11_findLeast_65 : decode cX11_findLeast 65 = .ok (.iconst 0, 1) := by decide +kernel
theorem dX11_findLeast_66 : decode cX11_findLeast 66 = .ok (.istore 6, 2) := by decide +kernel
theorem dX11_findLeast_68 : decode cX11_findLeast 68 = .ok (.iload 6, 2) := by decide +kernel
theorem dX11_findLeast_70 : decode cX11_findLeast 70 = .ok (.aload_n 0, 1) := by decide +kernel
theorem dX11_findLeast_71 : decode cX11_findLeast 71 = .ok (.getfield 170, 3) := by decide +kernel
theorem dX11_findLeast_74 : decode cX11_findLeast 74 = .ok (.if_icmp .ge 59, 3) := by decide +kernel
theorem dX11_findLeast_77 : decode cX11_findLeast 77 = .ok (.aload_n 0, 1) := by decide +kernel
theorem dX11_findLeast_78 : decode cX11_findLeast 78 = .ok (.iload_n 1, 1) := by decide +kernel
theorem dX11_findLeast_79 : decode cX11_findLeast 79 = .ok (.iload_n 3, 1) := by decide +kernel
theorem dX11_findLeast_80 : decode cX11_findLeast 80 = .ok (.iconst 5, 1) := by decide +kernel
theorem dX11_findLeast_81 : decode cX11_findLeast 81 = .ok (.iload 6, 2) := by decide +kernel
theorem dX11_findLeast_83 : decode cX11_findLeast 83 = .ok (.imul, 1) := by decide +kernel
theorem dX11_findLeast_84 : decode cX11_findLeast 84 = .ok (.invokevirtual 173, 3) := by decide +kernel
theorem dX11_findLeast_87 : decode cX11_findLeast 87 = .ok (.ifCond .eq 40, 3) := by decide +kernel
theorem dX11_findLeast_90 : decode cX11_findLeast 90 = .ok (.iload 4, 2) := by decide +kernel
theorem dX11_findLeast_92 : decode cX11_findLeast 92 = .ok (.aload_n 0, 1) := by decide +kernel
theorem dX11_findLeast_93 : decode cX11_findLeast 93 = .ok (.getfield 98, 3) := by decide +kernel
theorem dX11_findLeast_96 : decode cX11_findLeast 96 = .ok (.iload_n 3, 1) := by decide +kernel
theorem dX11_findLeast_97 : decode cX11_findLeast 97 = .ok (.aload_n 0, 1) := by decide +kernel
theorem dX11_findLeast_98 : decode cX11_findLeast 98 = .ok (.getfield 91, 3) := by decide +kernel
theorem dX11_findLeast_101 : decode cX11_findLeast 101 = .ok (.iconst 5, 1) := by decide +kernel
theorem dX11_findLeast_102 : decode cX11_findLeast 102 = .ok (.iload 6, 2) := by decide +kernel
theorem dX11_findLeast_104 : decode cX11_findLeast 104 = .ok (.imul, 1) := by decide +kernel
theorem dX11_findLeast_105 : decode cX11_findLeast 105 = .ok (.iaload, 1) := by decide +kernel
theorem dX11_findLeast_106 : decode cX11_findLeast 106 = .ok (.iadd, 1) := by decide +kernel
theorem dX11_findLeast_107 : decode cX11_findLeast 107 = .ok (.iaload, 1) := by decide +kernel
theorem dX11_findLeast_108 : decode cX11_findLeast 108 = .ok (.iadd, 1) := by decide +kernel
theorem dX11_findLeast_109 : decode cX11_findLeast 109 = .ok (.istore 7, 2) := by decide +kernel
theorem dX11_findLeast_111 : decode cX11_findLeast 111 = .ok (.iload 7, 2) := by decide +kernel
theorem dX11_findLeast_113 : decode cX11_findLeast 113 = .ok (.iload 5, 2) := by decide +kernel
theorem dX11_findLeast_115 : decode cX11_findLeast 115 = .ok (.if_icmp .ge 8, 3) := by decide +kernel
theorem dX11_findLeast_118 : decode cX11_findLeast 118 = .ok (.iload 7, 2) := by decide +kernel
theorem dX11_findLeast_120 : decode cX11_findLeast 120 = .ok (.goto 5, 3) := by decide +kernel
theorem dX11_findLeast_123 : decode cX11_findLeast 123 = .ok (.iload 5, 2) := by decide +kernel
theorem dX11_findLeast_125 : decode cX11_findLeast 125 = .ok (.istore 5, 2) := by decide +kernel
theorem dX11_findLeast_127 : decode cX11_findLeast 127 = .ok (.iinc 6 1, 3) := by decide +kernel
theorem dX11_findLeast_130 : decode cX11_findLeast 130 = .ok (.goto (-62), 3) := by decide +kernel
theorem dX11_findLeast_133 : decode cX11_findLeast 133 = .ok (.aload_n 0, 1) := by decide +kernel
theorem dX11_findLeast_134 : decode cX11_findLeast 134 = .ok (.getfield 98, 3) := by decide +kernel
theorem dX11_findLeast_137 : decode cX11_findLeast 137 = .ok (.iload_n 3, 1) := by decide +kernel
theorem dX11_findLeast_138 : decode cX11_findLeast 138 = .ok (.iload 5, 2) := by decide +kernel
theorem dX11_findLeast_140 : decode cX11_findLeast 140 = .ok (.iastore, 1) := by decide +kernel
theorem dX11_findLeast_141 : decode cX11_findLeast 141 = .ok (.iinc 3 (-1), 3) := by decide +kernel
theorem dX11_findLeast_144 : decode cX11_findLeast 144 = .ok (.goto (-118), 3) := by decide +kernel
theorem dX11_findLeast_147 : decode cX11_findLeast 147 = .ok (.return_, 1) := by decide +kernel
theorem dX11_takeJoins_0 : decode cX11_takeJoins 0 = .ok (.aload_n 0, 1) := by decide +kernel
theorem dX11_takeJoins_1 : decode cX11_takeJoins 1 = .ok (.aload_n 0, 1) := by decide +kernel
theorem dX11_takeJoins_2 : decode cX11_takeJoins 2 = .ok (.getfield 25, 3) := by decide +kernel
theorem dX11_takeJoins_5 : decode cX11_takeJoins 5 = .ok (.iconst 0, 1) := by decide +kernel
theorem dX11_takeJoins_6 : decode cX11_takeJoins 6 = .ok (.iaload, 1) := by decide +kernel
theorem dX11_takeJoins_7 : decode cX11_takeJoins 7 = .ok (.putfield 170, 3) := by decide +kernel
theorem dX11_takeJoins_10 : decode cX11_takeJoins 10 = .ok (.iconst 0, 1) := by decide +kernel
theorem dX11_takeJoins_11 : decode cX11_takeJoins 11 = .ok (.istore_n 1, 1) := by decide +kernel
theorem dX11_takeJoins_12 : decode cX11_takeJoins 12 = .ok (.iload_n 1, 1) := by decide +kernel
theorem dX11_takeJoins_13 : decode cX11_takeJoins 13 = .ok (.iconst 5, 1) := by decide +kernel
theorem dX11_takeJoins_14 : decode cX11_takeJoins 14 = .ok (.aload_n 0, 1) := by decide +kernel
theorem dX11_takeJoins_15 : decode cX11_takeJoins 15 = .ok (.getfield 170, 3) := by decide +kernel
theorem dX11_takeJoins_18 : decode cX11_takeJoins 18 = .ok (.imul, 1) := by decide +kernel
theorem dX11_takeJoins_19 : decode cX11_takeJoins 19 = .ok (.if_icmp .ge 21, 3) := by decide +kernel
theorem dX11_takeJoins_22 : decode cX11_takeJoins 22 = .ok (.aload_n 0, 1) := by decide +kernel
theorem dX11_takeJoins_23 : decode cX11_takeJoins 23 = .ok (.getfield 91, 3) := by decide +kernel
theorem dX11_takeJoins_26 : decode cX11_takeJoins 26 = .ok (.iload_n 1, 1) := by decide +kernel
theorem dX11_takeJoins_27 : decode cX11_takeJoins 27 = .ok (.aload_n 0, 1) := by decide +kernel
theorem dX11_takeJoins_28 : decode cX11_takeJoins 28 = .ok (.getfield 28, 3) := by decide +kernel
theorem dX11_takeJoins_31 : decode cX11_takeJoins 31 = .ok (.iload_n 1, 1) := by decide +kernel
theorem dX11_takeJoins_32 : decode cX11_takeJoins 32 = .ok (.iaload, 1) := by decide +kernel
theorem dX11_takeJoins_33 : decode cX11_takeJoins 33 = .ok (.iastore, 1) := by decide +kernel
theorem dX11_takeJoins_34 : decode cX11_takeJoins 34 = .ok (.iinc 1 1, 3) := by decide +kernel
theorem dX11_takeJoins_37 : decode cX11_takeJoins 37 = .ok (.goto (-25), 3) := by decide +kernel
theorem dX11_takeJoins_40 : decode cX11_takeJoins 40 = .ok (.return_, 1) := by decide +kernel
theorem dX11_costOf_0 : decode cX11_costOf 0 = .ok (.iconst 0, 1) := by decide +kernel
theorem dX11_costOf_1 : decode cX11_costOf 1 = .ok (.istore_n 2, 1) := by decide +kernel
theorem dX11_costOf_2 : decode cX11_costOf 2 = .ok (.iconst 0, 1) := by decide +kernel
theorem dX11_costOf_3 : decode cX11_costOf 3 = .ok (.istore_n 3, 1) := by decide +kernel
theorem dX11_costOf_4 : decode cX11_costOf 4 = .ok (.iload_n 3, 1) := by decide +kernel
theorem dX11_costOf_5 : decode cX11_costOf 5 = .ok (.aload_n 0, 1) := by decide +kernel
theorem dX11_costOf_6 : decode cX11_costOf 6 = .ok (.getfield 7, 3) := by decide +kernel
theorem dX11_costOf_9 : decode cX11_costOf 9 = .ok (.iconst 0, 1) := by decide +kernel
theorem dX11_costOf_10 : decode cX11_costOf 10 = .ok (.iaload, 1) := by decide +kernel
theorem dX11_costOf_11 : decode cX11_costOf 11 = .ok (.if_icmp .ge 24, 3) := by decide +kernel
theorem dX11_costOf_14 : decode cX11_costOf 14 = .ok (.aload_n 0, 1) := by decide +kernel
theorem dX11_costOf_15 : decode cX11_costOf 15 = .ok (.iload_n 3, 1) := by decide +kernel
theorem dX11_costOf_16 : decode cX11_costOf 16 = .ok (.iload_n 1, 1) := by decide +kernel
theorem dX11_costOf_17 : decode cX11_costOf 17 = .ok (.invokevirtual 176, 3) := by decide +kernel
theorem dX11_costOf_20 : decode cX11_costOf 20 = .ok (.iload_n 2, 1) := by decide +kernel
theorem dX11_costOf_21 : decode cX11_costOf 21 = .ok (.aload_n 0, 1) := by decide +kernel
theorem dX11_costOf_22 : decode cX11_costOf 22 = .ok (.getfield 98, 3) := by decide +kernel
theorem dX11_costOf_25 : decode cX11_costOf 25 = .ok (.iconst 0, 1) := by decide +kernel
theorem dX11_costOf_26 : decode cX11_costOf 26 = .ok (.iaload, 1) := by decide +kernel
theorem dX11_costOf_27 : decode cX11_costOf 27 = .ok (.iadd, 1) := by decide +kernel
theorem dX11_costOf_28 : decode cX11_costOf 28 = .ok (.istore_n 2, 1) := by decide +kernel
theorem dX11_costOf_29 : decode cX11_costOf 29 = .ok (.iinc 3 1, 3) := by decide +kernel
theorem dX11_costOf_32 : decode cX11_costOf 32 = .ok (.goto (-28), 3) := by decide +kernel
theorem dX11_costOf_35 : decode cX11_costOf 35 = .ok (.iload_n 2, 1) := by decide +kernel
theorem dX11_costOf_36 : decode cX11_costOf 36 = .ok (.ireturn, 1) := by decide +kernel
theorem dX11_putByte_0 : decode cX11_putByte 0 = .ok (.aload_n 0, 1) := by decide +kernel
theorem dX11_putByte_1 : decode cX11_putByte 1 = .ok (.getfield 49, 3) := by decide +kernel
theorem dX11_putByte_4 : decode cX11_putByte 4 = .ok (.aload_n 0, 1) := by decide +kernel
theorem dX11_putByte_5 : decode cX11_putByte 5 = .ok (.getfield 46, 3) := by decide +kernel
theorem dX11_putByte_8 : decode cX11_putByte 8 = .ok (.iconst 0, 1) := by decide +kernel
theorem dX11_putByte_9 : decode cX11_putByte 9 = .ok (.iaload, 1) := by decide +kernel
theorem dX11_putByte_10 : decode cX11_putByte 10 = .ok (.iload_n 1, 1) := by decide +kernel
theorem dX11_putByte_11 : decode cX11_putByte 11 = .ok (.sipush 255, 3) := by decide +kernel
theorem dX11_putByte_14 : decode cX11_putByte 14 = .ok (.iand, 1) := by decide +kernel
theorem dX11_putByte_15 : decode cX11_putByte 15 = .ok (.iastore, 1) := by decide +kernel
theorem dX11_putByte_16 : decode cX11_putByte 16 = .ok (.aload_n 0, 1) := by decide +kernel
theorem dX11_putByte_17 : decode cX11_putByte 17 = .ok (.getfield 46, 3) := by decide +kernel
theorem dX11_putByte_20 : decode cX11_putByte 20 = .ok (.iconst 0, 1) := by decide +kernel
theorem dX11_putByte_21 : decode cX11_putByte 21 = .ok (.dup2, 1) := by decide +kernel
theorem dX11_putByte_22 : decode cX11_putByte 22 = .ok (.iaload, 1) := by decide +kernel
theorem dX11_putByte_23 : decode cX11_putByte 23 = .ok (.iconst 1, 1) := by decide +kernel
theorem dX11_putByte_24 : decode cX11_putByte 24 = .ok (.iadd, 1) := by decide +kernel
theorem dX11_putByte_25 : decode cX11_putByte 25 = .ok (.iastore, 1) := by decide +kernel
theorem dX11_putByte_26 : decode cX11_putByte 26 = .ok (.return_, 1) := by decide +kernel
theorem dX11_pack_0 : decode cX11_pack 0 = .ok (.aload_n 0, 1) := by decide +kernel
theorem dX11_pack_1 : decode cX11_pack 1 = .ok (.iconst 0, 1) := by decide +kernel
theorem dX11_pack_2 : decode cX11_pack 2 = .ok (.putfield 134, 3) := by decide +kernel
theorem dX11_pack_5 : decode cX11_pack 5 = .ok (.aload_n 0, 1) := by decide +kernel
theorem dX11_pack_6 : decode cX11_pack 6 = .ok (.iload_n 1, 1) := by decide +kernel
theorem dX11_pack_7 : decode cX11_pack 7 = .ok (.invokevirtual 150, 3) := by decide +kernel
theorem dX11_pack_10 : decode cX11_pack 10 = .ok (.ifCond .ne 5, 3) := by decide +kernel
theorem dX11_pack_13 : decode cX11_pack 13 = .ok (.iconst (-1), 1) := by decide +kernel
theorem dX11_pack_14 : decode cX11_pack 14 = .ok (.ireturn, 1) := by decide +kernel
theorem dX11_pack_15 : decode cX11_pack 15 = .ok (.aload_n 0, 1) := by decide +kernel
theorem dX11_pack_16 : decode cX11_pack 16 = .ok (.invokevirtual 180, 3) := by decide +kernel
theorem dX11_pack_19 : decode cX11_pack 19 = .ok (.aload_n 0, 1) := by decide +kernel
theorem dX11_pack_20 : decode cX11_pack 20 = .ok (.iload_n 1, 1) := by decide +kernel
theorem dX11_pack_21 : decode cX11_pack 21 = .ok (.iconst 0, 1) := by decide +kernel
theorem dX11_pack_22 : decode cX11_pack 22 = .ok (.invokevirtual 176, 3) := by decide +kernel
theorem dX11_pack_25 : decode cX11_pack 25 = .ok (.aload_n 0, 1) := by decide +kernel
theorem dX11_pack_26 : decode cX11_pack 26 = .ok (.getfield 13, 3) := by decide +kernel
theorem dX11_pack_29 : decode cX11_pack 29 = .ok (.iload_n 1, 1) := by decide +kernel
theorem dX11_pack_30 : decode cX11_pack 30 = .ok (.iaload, 1) := by decide +kernel
theorem dX11_pack_31 : decode cX11_pack 31 = .ok (.istore_n 2, 1) := by decide +kernel
theorem dX11_pack_32 : decode cX11_pack 32 = .ok (.aload_n 0, 1) := by decide +kernel
theorem dX11_pack_33 : decode cX11_pack 33 = .ok (.getfield 31, 3) := by decide +kernel
theorem dX11_pack_36 : decode cX11_pack 36 = .ok (.iconst 0, 1) := by decide +kernel
theorem dX11_pack_37 : decode cX11_pack 37 = .ok (.iload_n 2, 1) := by decide +kernel
theorem dX11_pack_38 : decode cX11_pack 38 = .ok (.iastore, 1) := by decide +kernel
theorem dX11_pack_39 : decode cX11_pack 39 = .ok (.iconst 0, 1) := by decide +kernel
theorem dX11_pack_40 : decode cX11_pack 40 = .ok (.istore_n 3, 1) := by decide +kernel
theorem dX11_pack_41 : decode cX11_pack 41 = .ok (.iload_n 3, 1) := by decide +kernel
theorem dX11_pack_42 : decode cX11_pack 42 = .ok (.iload_n 2, 1) := by decide +kernel
theorem dX11_pack_43 : decode cX11_pack 43 = .ok (.if_icmp .ge 43, 3) := by decide +kernel
theorem dX11_pack_46 : decode cX11_pack 46 = .ok (.aload_n 0, 1) := by decide +kernel
theorem dX11_pack_47 : decode cX11_pack 47 = .ok (.getfield 34, 3) := by decide +kernel
theorem dX11_pack_50 : decode cX11_pack 50 = .ok (.iload_n 3, 1) := by decide +kernel
theorem dX11_pack_51 : decode cX11_pack 51 = .ok (.aload_n 0, 1) := by decide +kernel
theorem dX11_pack_52 : decode cX11_pack 52 = .ok (.getfield 16, 3) := by decide +kernel
theorem dX11_pack_55 : decode cX11_pack 55 = .ok (.bipush 40, 2) := by decide +kernel
theorem dX11_pack_57 : decode cX11_pack 57 = .ok (.iload_n 1, 1) := by decide +kernel
theorem dX11_pack_58 : decode cX11_pack 58 = .ok (.imul, 1) := by decide +kernel
theorem dX11_pack_59 : decode cX11_pack 59 = .ok (.iload_n 3, 1) := by decide +kernel
theorem dX11_pack_60 : decode cX11_pack 60 = .ok (.iadd, 1) := by decide +kernel
theorem dX11_pack_61 : decode cX11_pack 61 = .ok (.iaload, 1) := by decide +kernel
theorem dX11_pack_62 : decode cX11_pack 62 = .ok (.iastore, 1) := by decide +kernel
theorem dX11_pack_63 : decode cX11_pack 63 = .ok (.aload_n 0, 1) := by decide +kernel
theorem dX11_pack_64 : decode cX11_pack 64 = .ok (.getfield 37, 3) := by decide +kernel
theorem dX11_pack_67 : decode cX11_pack 67 = .ok (.iload_n 3, 1) := by decide +kernel
theorem dX11_pack_68 : decode cX11_pack 68 = .ok (.aload_n 0, 1) := by decide +kernel
theorem dX11_pack_69 : decode cX11_pack 69 = .ok (.getfield 19, 3) := by decide +kernel
theorem dX11_pack_72 : decode cX11_pack 72 = .ok (.bipush 40, 2) := by decide +kernel
theorem dX11_pack_74 : decode cX11_pack 74 = .ok (.iload_n 1, 1) := by decide +kernel
theorem dX11_pack_75 : decode cX11_pack 75 = .ok (.imul, 1) := by decide +kernel
theorem dX11_pack_76 : decode cX11_pack 76 = .ok (.iload_n 3, 1) := by decide +kernel
theorem dX11_pack_77 : decode cX11_pack 77 = .ok (.iadd, 1) := by decide +kernel
theorem dX11_pack_78 : decode cX11_pack 78 = .ok (.iaload, 1) := by decide +kernel
theorem dX11_pack_79 : decode cX11_pack 79 = .ok (.iastore, 1) := by decide +kernel
theorem dX11_pack_80 : decode cX11_pack 80 = .ok (.iinc 3 1, 3) := by decide +kernel
theorem dX11_pack_83 : decode cX11_pack 83 = .ok (.goto (-42), 3) := by decide +kernel
theorem dX11_pack_86 : decode cX11_pack 86 = .ok (.aload_n 0, 1) := by decide +kernel
theorem dX11_pack_87 : decode cX11_pack 87 = .ok (.getfield 40, 3) := by decide +kernel
theorem dX11_pack_90 : decode cX11_pack 90 = .ok (.iconst 0, 1) := by decide +kernel
theorem dX11_pack_91 : decode cX11_pack 91 = .ok (.iconst 0, 1) := by decide +kernel
theorem dX11_pack_92 : decode cX11_pack 92 = .ok (.iastore, 1) := by decide +kernel
theorem dX11_pack_93 : decode cX11_pack 93 = .ok (.aload_n 0, 1) := by decide +kernel
theorem dX11_pack_94 : decode cX11_pack 94 = .ok (.getfield 46, 3) := by decide +kernel
theorem dX11_pack_97 : decode cX11_pack 97 = .ok (.iconst 0, 1) := by decide +kernel
theorem dX11_pack_98 : decode cX11_pack 98 = .ok (.iconst 0, 1) := by decide +kernel
theorem dX11_pack_99 : decode cX11_pack 99 = .ok (.iastore, 1) := by decide +kernel
theorem dX11_pack_100 : decode cX11_pack 100 = .ok (.iconst 0, 1) := by decide +kernel
theorem dX11_pack_101 : decode cX11_pack 101 = .ok (.istore_n 3, 1) := by decide +kernel
theorem dX11_pack_102 : decode cX11_pack 102 = .ok (.iload_n 3, 1) := by decide +kernel
theorem dX11_pack_103 : decode cX11_pack 103 = .ok (.iload_n 2, 1) := by decide +kernel
theorem dX11_pack_104 : decode cX11_pack 104 = .ok (.if_icmp .ge 200, 3) := by decide +kernel
theorem dX11_pack_107 : decode cX11_pack 107 = .ok (.iconst 1, 1) := by decide +kernel
theorem dX11_pack_108 : decode cX11_pack 108 = .ok (.istore 4, 2) := by decide +kernel
theorem dX11_pack_110 : decode cX11_pack 110 = .ok (.aload_n 0, 1) := by decide +kernel
theorem dX11_pack_111 : decode cX11_pack 111 = .ok (.getfield 34, 3) := by decide +kernel
theorem dX11_pack_114 : decode cX11_pack 114 = .ok (.iload_n 3, 1) := by decide +kernel
theorem dX11_pack_115 : decode cX11_pack 115 = .ok (.iaload, 1) := by decide +kernel
theorem dX11_pack_116 : decode cX11_pack 116 = .ok (.istore 5, 2) := by decide +kernel
theorem dX11_pack_118 : decode cX11_pack 118 = .ok (.iconst 0, 1) := by decide +kernel
theorem dX11_pack_119 : decode cX11_pack 119 = .ok (.istore 6, 2) := by decide +kernel
theorem dX11_pack_121 : decode cX11_pack 121 = .ok (.iload 6, 2) := by decide +kernel
theorem dX11_pack_123 : decode cX11_pack 123 = .ok (.aload_n 0, 1) := by decide +kernel
theorem dX11_pack_124 : decode cX11_pack 124 = .ok (.getfield 170, 3) := by decide +kernel
theorem dX11_pack_127 : decode cX11_pack 127 = .ok (.if_icmp .ge 71, 3) := by decide +kernel
theorem dX11_pack_130 : decode cX11_pack 130 = .ok (.aload_n 0, 1) := by decide +kernel
theorem dX11_pack_131 : decode cX11_pack 131 = .ok (.getfield 91, 3) := by decide +kernel
theorem dX11_pack_134 : decode cX11_pack 134 = .ok (.iconst 5, 1) := by decide +kernel
theorem dX11_pack_135 : decode cX11_pack 135 = .ok (.iload 6, 2) := by decide +kernel
theorem dX11_pack_137 : decode cX11_pack 137 = .ok (.imul, 1) := by decide +kernel
theorem dX11_pack_138 : decode cX11_pack 138 = .ok (.iaload, 1) := by decide +kernel
theorem dX11_pack_139 : decode cX11_pack 139 = .ok (.istore 7, 2) := by decide +kernel
theorem dX11_pack_141 : decode cX11_pack 141 = .ok (.iload 7, 2) := by decide +kernel
theorem dX11_pack_143 : decode cX11_pack 143 = .ok (.iload 4, 2) := by decide +kernel
theorem dX11_pack_145 : decode cX11_pack 145 = .ok (.if_icmp .le 47, 3) := by decide +kernel
theorem dX11_pack_148 : decode cX11_pack 148 = .ok (.aload_n 0, 1) := by decide +kernel
theorem dX11_pack_149 : decode cX11_pack 149 = .ok (.iload_n 1, 1) := by decide +kernel
theorem dX11_pack_150 : decode cX11_pack 150 = .ok (.iload_n 3, 1) := by decide +kernel
theorem dX11_pack_151 : decode cX11_pack 151 = .ok (.iconst 5, 1) := by decide +kernel
theorem dX11_pack_152 : decode cX11_pack 152 = .ok (.iload 6, 2) := by decide +kernel
theorem dX11_pack_154 : decode cX11_pack 154 = .ok (.imul, 1) := by decide +kernel
theorem dX11_pack_155 : decode cX11_pack 155 = .ok (.invokevirtual 173, 3) := by decide +kernel
theorem dX11_pack_158 : decode cX11_pack 158 = .ok (.ifCond .eq 34, 3) := by decide +kernel
theorem dX11_pack_161 : decode cX11_pack 161 = .ok (.iconst 1, 1) := by decide +kernel
theorem dX11_pack_162 : decode cX11_pack 162 = .ok (.aload_n 0, 1) := by decide +kernel
theorem dX11_pack_163 : decode cX11_pack 163 = .ok (.getfield 98, 3) := by decide +kernel
theorem dX11_pack_166 : decode cX11_pack 166 = .ok (.iload_n 3, 1) := by decide +kernel
theorem dX11_pack_167 : decode cX11_pack 167 = .ok (.iload 7, 2) := by decide +kernel
theorem dX11_pack_169 : decode cX11_pack 169 = .ok (.iadd, 1) := by decide +kernel
theorem dX11_pack_170 : decode cX11_pack 170 = .ok (.iaload, 1) := by decide +kernel
theorem dX11_pack_171 : decode cX11_pack 171 = .ok (.iadd, 1) := by decide +kernel
theorem dX11_pack_172 : decode cX11_pack 172 = .ok (.aload_n 0, 1) := by decide +kernel
theorem dX11_pack_173 : decode cX11_pack 173 = .ok (.getfield 98, 3) := by decide +kernel
theorem dX11_pack_176 : decode cX11_pack 176 = .ok (.iload_n 3, 1) := by decide +kernel
theorem dX11_pack_177 : decode cX11_pack 177 = .ok (.iaload, 1) := by decide +kernel
theorem dX11_pack_178 : decode cX11_pack 178 = .ok (.if_icmp .ne 14, 3) := by decide +kernel
theorem dX11_pack_181 : decode cX11_pack 181 = .ok (.iload 7, 2) := by decide +kernel
theorem dX11_pack_183 : decode cX11_pack 183 = .ok (.istore 4, 2) := by decide +kernel
theorem dX11_pack_185 : decode cX11_pack 185 = .ok (.bipush 16, 2) := by decide +kernel
theorem dX11_pack_187 : decode cX11_pack 187 = .ok (.iload 6, 2) := by decide +kernel
theorem dX11_pack_189 : decode cX11_pack 189 = .ok (.iadd, 1) := by decide +kernel
theorem dX11_pack_190 : decode cX11_pack 190 = .ok (.istore 5, 2) := by decide +kernel
theorem dX11_pack_192 : decode cX11_pack 192 = .ok (.iinc 6 1, 3) := by decide +kernel
theorem dX11_pack_195 : decode cX11_pack 195 = .ok (.goto (-74), 3) := by decide +kernel
theorem dX11_pack_198 : decode cX11_pack 198 = .ok (.iconst 3, 1) := by decide +kernel
theorem dX11_pack_199 : decode cX11_pack 199 = .ok (.aload_n 0, 1) := by decide +kernel
theorem dX11_pack_200 : decode cX11_pack 200 = .ok (.getfield 40, 3) := by decide +kernel
theorem dX11_pack_203 : decode cX11_pack 203 = .ok (.iconst 0, 1) := by decide +kernel
theorem dX11_pack_204 : decode cX11_pack 204 = .ok (.iaload, 1) := by decide +kernel
theorem dX11_pack_205 : decode cX11_pack 205 = .ok (.imul, 1) := by decide +kernel
theorem dX11_pack_206 : decode cX11_pack 206 = .ok (.istore 6, 2) := by decide +kernel
theorem dX11_pack_208 : decode cX11_pack 208 = .ok (.aload_n 0, 1) := by decide +kernel
theorem dX11_pack_209 : decode cX11_pack 209 = .ok (.getfield 43, 3) := by decide +kernel
theorem dX11_pack_212 : decode cX11_pack 212 = .ok (.iload 6, 2) := by decide +kernel
theorem dX11_pack_214 : decode cX11_pack 214 = .ok (.iload 5, 2) := by decide +kernel
theorem dX11_pack_216 : decode cX11_pack 216 = .ok (.iastore, 1) := by decide +kernel
theorem dX11_pack_217 : decode cX11_pack 217 = .ok (.aload_n 0, 1) := by decide +kernel
theorem dX11_pack_218 : decode cX11_pack 218 = .ok (.getfield 43, 3) := by decide +kernel
theorem dX11_pack_221 : decode cX11_pack 221 = .ok (.iload 6, 2) := by decide +kernel
theorem dX11_pack_223 : decode cX11_pack 223 = .ok (.iconst 1, 1) := by decide +kernel
theorem dX11_pack_224 : decode cX11_pack 224 = .ok (.iadd, 1) := by decide +kernel
theorem dX11_pack_225 : decode cX11_pack 225 = .ok (.iload_n 3, 1) := by decide +kernel
theorem dX11_pack_226 : decode cX11_pack 226 = .ok (.iastore, 1) := by decide +kernel
theorem dX11_pack_227 : decode cX11_pack 227 = .ok (.aload_n 0, 1) := by decide +kernel
theorem dX11_pack_228 : decode cX11_pack 228 = .ok (.getfield 43, 3) := by decide +kernel
theorem dX11_pack_231 : decode cX11_pack 231 = .ok (.iload 6, 2) := by decide +kernel
theorem dX11_pack_233 : decode cX11_pack 233 = .ok (.iconst 2, 1) := by decide +kernel
theorem dX11_pack_234 : decode cX11_pack 234 = .ok (.iadd, 1) := by decide +kernel
theorem dX11_pack_235 : decode cX11_pack 235 = .ok (.iload 4, 2) := by decide +kernel
theorem dX11_pack_237 : decode cX11_pack 237 = .ok (.iastore, 1) := by decide +kernel
theorem dX11_pack_238 : decode cX11_pack 238 = .ok (.aload_n 0, 1) := by decide +kernel
theorem dX11_pack_239 : decode cX11_pack 239 = .ok (.getfield 40, 3) := by decide +kernel
theorem dX11_pack_242 : decode cX11_pack 242 = .ok (.iconst 0, 1) := by decide +kernel
theorem dX11_pack_243 : decode cX11_pack 243 = .ok (.dup2, 1) := by decide +kernel
theorem dX11_pack_244 : decode cX11_pack 244 = .ok (.iaload, 1) := by decide +kernel
theorem dX11_pack_245 : decode cX11_pack 245 = .ok (.iconst 1, 1) := by decide +kernel
theorem dX11_pack_246 : decode cX11_pack 246 = .ok (.iadd, 1) := by decide +kernel
theorem dX11_pack_247 : decode cX11_pack 247 = .ok (.iastore, 1) := by decide +kernel
theorem dX11_pack_248 : decode cX11_pack 248 = .ok (.aload_n 0, 1) := by decide +kernel
theorem dX11_pack_249 : decode cX11_pack 249 = .ok (.iload 5, 2) := by decide +kernel
theorem dX11_pack_251 : decode cX11_pack 251 = .ok (.invokevirtual 183, 3) := by decide +kernel
theorem dX11_pack_254 : decode cX11_pack 254 = .ok (.iload_n 3, 1) := by decide +kernel
theorem dX11_pack_255 : decode cX11_pack 255 = .ok (.istore 7, 2) := by decide +kernel
theorem dX11_pack_257 : decode cX11_pack 257 = .ok (.iload 7, 2) := by decide +kernel
theorem dX11_pack_259 : decode cX11_pack 259 = .ok (.iload_n 3, 1) := by decide +kernel
theorem dX11_pack_260 : decode cX11_pack 260 = .ok (.iload 4, 2) := by decide +kernel
theorem dX11_pack_262 : decode cX11_pack 262 = .ok (.iadd, 1) := by decide +kernel
theorem dX11_pack_263 : decode cX11_pack 263 = .ok (.if_icmp .ge 33, 3) := by decide +kernel
theorem dX11_pack_266 : decode cX11_pack 266 = .ok (.aload_n 0, 1) := by decide +kernel
theorem dX11_pack_267 : decode cX11_pack 267 = .ok (.getfield 34, 3) := by decide +kernel
theorem dX11_pack_270 : decode cX11_pack 270 = .ok (.iload 7, 2) := by decide +kernel
theorem dX11_pack_272 : decode cX11_pack 272 = .ok (.iaload, 1) := by decide +kernel
theorem dX11_pack_273 : decode cX11_pack 273 = .ok (.invokestatic 158, 3) := by decide +kernel
theorem dX11_pack_276 : decode cX11_pack 276 = .ok (.ifCond .eq 14, 3) := by decide +kernel
theorem dX11_pack_279 : decode cX11_pack 279 = .ok (.aload_n 0, 1) := by decide +kernel
theorem dX11_pack_280 : decode cX11_pack 280 = .ok (.aload_n 0, 1) := by decide +kernel
theorem dX11_pack_281 : decode cX11_pack 281 = .ok (.getfield 37, 3) := by decide +kernel
theorem dX11_pack_284 : decode cX11_pack 284 = .ok (.iload 7, 2) := by decide +kernel
theorem dX11_pack_286 : decode cX11_pack 286 = .ok (.iaload, 1) := by decide +kernel
theorem dX11_pack_287 : decode cX11_pack 287 = .ok (.invokevirtual 183, 3) := by decide +kernel
theorem dX11_pack_290 : decode cX11_pack 290 = .ok (.iinc 7 1, 3) := by decide +kernel
theorem dX11_pack_293 : decode cX11_pack 293 = .ok (.goto (-36), 3) := by decide +kernel
theorem dX11_pack_296 : decode cX11_pack 296 = .ok (.iload_n 3, 1) := by decide +kernel
theorem dX11_pack_297 : decode cX11_pack 297 = .ok (.iload 4, 2) := by decide +kernel
theorem dX11_pack_299 : decode cX11_pack 299 = .ok (.iadd, 1) := by decide +kernel
theorem dX11_pack_300 : decode cX11_pack 300 = .ok (.istore_n 3, 1) := by decide +kernel
theorem dX11_pack_301 : decode cX11_pack 301 = .ok (.goto (-199), 3) := by decide +kernel
theorem dX11_pack_304 : decode cX11_pack 304 = .ok (.aload_n 0, 1) := by decide +kernel
theorem dX11_pack_305 : decode cX11_pack 305 = .ok (.getfield 40, 3) := by decide +kernel
theorem dX11_pack_308 : decode cX11_pack 308 = .ok (.iconst 0, 1) := by decide +kernel
theorem dX11_pack_309 : decode cX11_pack 309 = .ok (.iaload, 1) := by decide +kernel
theorem dX11_pack_310 : decode cX11_pack 310 = .ok (.ireturn, 1) := by decide +kernel
theorem dX11_code_0 : decode cX11_code 0 = .ok (.aload_n 0, 1) := by decide +kernel
theorem dX11_code_1 : decode cX11_code 1 = .ok (.iconst 0, 1) := by decide +kernel
theorem dX11_code_2 : decode cX11_code 2 = .ok (.putfield 134, 3) := by decide +kernel
theorem dX11_code_5 : decode cX11_code 5 = .ok (.iload_n 1, 1) := by decide +kernel
theorem dX11_code_6 : decode cX11_code 6 = .ok (.iconst 0, 1) := by decide +kernel
theorem dX11_code_7 : decode cX11_code 7 = .ok (.aload_n 0, 1) := by decide +kernel
theorem dX11_code_8 : decode cX11_code 8 = .ok (.getfield 40, 3) := by decide +kernel
theorem dX11_code_11 : decode cX11_code 11 = .ok (.iconst 0, 1) := by decide +kernel
theorem dX11_code_12 : decode cX11_code 12 = .ok (.iaload, 1) := by decide +kernel
theorem dX11_code_13 : decode cX11_code 13 = .ok (.iconst 1, 1) := by decide +kernel
theorem dX11_code_14 : decode cX11_code 14 = .ok (.isub, 1) := by decide +kernel
theorem dX11_code_15 : decode cX11_code 15 = .ok (.invokestatic 142, 3) := by decide +kernel
theorem dX11_code_18 : decode cX11_code 18 = .ok (.ifCond .eq 25, 3) := by decide +kernel
theorem dX11_code_21 : decode cX11_code 21 = .ok (.iload_n 2, 1) := by decide +kernel
theorem dX11_code_22 : decode cX11_code 22 = .ok (.iconst 0, 1) := by decide +kernel
theorem dX11_code_23 : decode cX11_code 23 = .ok (.iconst 2, 1) := by decide +kernel
theorem dX11_code_24 : decode cX11_code 24 = .ok (.invokestatic 142, 3) := by decide +kernel
theorem dX11_code_27 : decode cX11_code 27 = .ok (.ifCond .eq 16, 3) := by decide +kernel
theorem dX11_code_30 : decode cX11_code 30 = .ok (.aload_n 0, 1) := by decide +kernel
theorem dX11_code_31 : decode cX11_code 31 = .ok (.getfield 43, 3) := by decide +kernel
theorem dX11_code_34 : decode cX11_code 34 = .ok (.iconst 3, 1) := by decide +kernel
theorem dX11_code_35 : decode cX11_code 35 = .ok (.iload_n 1, 1) := by decide +kernel
theorem dX11_code_36 : decode cX11_code 36 = .ok (.imul, 1) := by decide +kernel
theorem dX11_code_37 : decode cX11_code 37 = .ok (.iload_n 2, 1) := by decide +kernel
theorem dX11_code_38 : decode cX11_code 38 = .ok (.iadd, 1) := by decide +kernel
theorem dX11_code_39 : decode cX11_code 39 = .ok (.iaload, 1) := by decide +kernel
theorem dX11_code_40 : decode cX11_code 40 = .ok (.goto 4, 3) := by decide +kernel
theorem dX11_code_43 : decode cX11_code 43 = .ok (.iconst (-1), 1) := by decide +kernel
theorem dX11_code_44 : decode cX11_code 44 = .ok (.ireturn, 1) := by decide +kernel
theorem dX11_bytes_0 : decode cX11_bytes 0 = .ok (.aload_n 0, 1) := by decide +kernel
theorem dX11_bytes_1 : decode cX11_bytes 1 = .ok (.iconst 0, 1) := by decide +kernel
theorem dX11_bytes_2 : decode cX11_bytes 2 = .ok (.putfield 134, 3) := by decide +kernel
theorem dX11_bytes_5 : decode cX11_bytes 5 = .ok (.aload_n 0, 1) := by decide +kernel
theorem dX11_bytes_6 : decode cX11_bytes 6 = .ok (.getfield 40, 3) := by decide +kernel
theorem dX11_bytes_9 : decode cX11_bytes 9 = .ok (.iconst 0, 1) := by decide +kernel
theorem dX11_bytes_10 : decode cX11_bytes 10 = .ok (.iaload, 1) := by decide +kernel
theorem dX11_bytes_11 : decode cX11_bytes 11 = .ok (.iconst (-1), 1) := by decide +kernel
theorem dX11_bytes_12 : decode cX11_bytes 12 = .ok (.if_icmp .eq 28, 3) := by decide +kernel
theorem dX11_bytes_15 : decode cX11_bytes 15 = .ok (.iload_n 1, 1) := by decide +kernel
theorem dX11_bytes_16 : decode cX11_bytes 16 = .ok (.iconst 0, 1) := by decide +kernel
theorem dX11_bytes_17 : decode cX11_bytes 17 = .ok (.aload_n 0, 1) := by decide +kernel
theorem dX11_bytes_18 : decode cX11_bytes 18 = .ok (.getfield 46, 3) := by decide +kernel
theorem dX11_bytes_21 : decode cX11_bytes 21 = .ok (.iconst 0, 1) := by decide +kernel
theorem dX11_bytes_22 : decode cX11_bytes 22 = .ok (.iaload, 1) := by decide +kernel
theorem dX11_bytes_23 : decode cX11_bytes 23 = .ok (.iconst 1, 1) := by decide +kernel
theorem dX11_bytes_24 : decode cX11_bytes 24 = .ok (.isub, 1) := by decide +kernel
theorem dX11_bytes_25 : decode cX11_bytes 25 = .ok (.invokestatic 142, 3) := by decide +kernel
theorem dX11_bytes_28 : decode cX11_bytes 28 = .ok (.ifCond .eq 12, 3) := by decide +kernel
theorem dX11_bytes_31 : decode cX11_bytes 31 = .ok (.aload_n 0, 1) := by decide +kernel
theorem dX11_bytes_32 : decode cX11_bytes 32 = .ok (.getfield 49, 3) := by decide +kernel
theorem dX11_bytes_35 : decode cX11_bytes 35 = .ok (.iload_n 1, 1) := by decide +kernel
theorem dX11_bytes_36 : decode cX11_bytes 36 = .ok (.iaload, 1) := by decide +kernel
theorem dX11_bytes_37 : decode cX11_bytes 37 = .ok (.goto 4, 3) := by decide +kernel
theorem dX11_bytes_40 : decode cX11_bytes 40 = .ok (.iconst (-1), 1) := by decide +kernel
theorem dX11_bytes_41 : decode cX11_bytes 41 = .ok (.ireturn, 1) := by decide +kernel
theorem dX11_wants_0 : decode cX11_wants 0 = .ok (.iload_n 0, 1) := by decide +kernel
theorem dX11_wants_1 : decode cX11_wants 1 = .ok (.tableswitch 67 1 12 #[63, 63, 63, 65, 63, 65, 67, 65, 67, 65, 63, 65], 63) := by decide +kernel
theorem dX11_wants_64 : decode cX11_wants 64 = .ok (.iconst 2, 1) := by decide +kernel
theorem dX11_wants_65 : decode cX11_wants 65 = .ok (.ireturn, 1) := by decide +kernel
theorem dX11_wants_66 : decode cX11_wants 66 = .ok (.iconst 1, 1) := by decide +kernel
theorem dX11_wants_67 : decode cX11_wants 67 = .ok (.ireturn, 1) := by decide +kernel
theorem dX11_wants_68 : decode cX11_wants 68 = .ok (.iconst 0, 1) := by decide +kernel
theorem dX11_wants_69 : decode cX11_wants 69 = .ok (.ireturn, 1) := by decide +kernel
theorem dX11_push_0 : decode cX11_push 0 = .ok (.aload_n 0, 1) := by decide +kernel
theorem dX11_push_1 : decode cX11_push 1 = .ok (.getfield 67, 3) := by decide +kernel
theorem dX11_push_4 : decode cX11_push 4 = .ok (.aload_n 0, 1) := by decide +kernel
theorem dX11_push_5 : decode cX11_push 5 = .ok (.getfield 64, 3) := by decide +kernel
theorem dX11_push_8 : decode cX11_push 8 = .ok (.iconst 0, 1) := by decide +kernel
theorem dX11_push_9 : decode cX11_push 9 = .ok (.iaload, 1) := by decide +kernel
theorem dX11_push_10 : decode cX11_push 10 = .ok (.iload_n 1, 1) := by decide +kernel
theorem dX11_push_11 : decode cX11_push 11 = .ok (.iastore, 1) := by decide +kernel
theorem dX11_push_12 : decode cX11_push 12 = .ok (.aload_n 0, 1) := by decide +kernel
theorem dX11_push_13 : decode cX11_push 13 = .ok (.getfield 64, 3) := by decide +kernel
theorem dX11_push_16 : decode cX11_push 16 = .ok (.iconst 0, 1) := by decide +kernel
theorem dX11_push_17 : decode cX11_push 17 = .ok (.dup2, 1) := by decide +kernel
theorem dX11_push_18 : decode cX11_push 18 = .ok (.iaload, 1) := by decide +kernel
theorem dX11_push_19 : decode cX11_push 19 = .ok (.iconst 1, 1) := by decide +kernel
theorem dX11_push_20 : decode cX11_push 20 = .ok (.iadd, 1) := by decide +kernel
theorem dX11_push_21 : decode cX11_push 21 = .ok (.iastore, 1) := by decide +kernel
theorem dX11_push_22 : decode cX11_push 22 = .ok (.return_, 1) := by decide +kernel
theorem dX11_pop_0 : decode cX11_pop 0 = .ok (.aload_n 0, 1) := by decide +kernel
theorem dX11_pop_1 : decode cX11_pop 1 = .ok (.getfield 64, 3) := by decide +kernel
theorem dX11_pop_4 : decode cX11_pop 4 = .ok (.iconst 0, 1) := by decide +kernel
theorem dX11_pop_5 : decode cX11_pop 5 = .ok (.dup2, 1) := by decide +kernel
theorem dX11_pop_6 : decode cX11_pop 6 = .ok (.iaload, 1) := by decide +kernel
theorem dX11_pop_7 : decode cX11_pop 7 = .ok (.iconst 1, 1) := by decide +kernel
theorem dX11_pop_8 : decode cX11_pop 8 = .ok (.isub, 1) := by decide +kernel
theorem dX11_pop_9 : decode cX11_pop 9 = .ok (.iastore, 1) := by decide +kernel
theorem dX11_pop_10 : decode cX11_pop 10 = .ok (.aload_n 0, 1) := by decide +kernel
theorem dX11_pop_11 : decode cX11_pop 11 = .ok (.getfield 67, 3) := by decide +kernel
theorem dX11_pop_14 : decode cX11_pop 14 = .ok (.aload_n 0, 1) := by decide +kernel
theorem dX11_pop_15 : decode cX11_pop 15 = .ok (.getfield 64, 3) := by decide +kernel
theorem dX11_pop_18 : decode cX11_pop 18 = .ok (.iconst 0, 1) := by decide +kernel
theorem dX11_pop_19 : decode cX11_pop 19 = .ok (.iaload, 1) := by decide +kernel
theorem dX11_pop_20 : decode cX11_pop 20 = .ok (.iaload, 1) := by decide +kernel
theorem dX11_pop_21 : decode cX11_pop 21 = .ok (.ireturn, 1) := by decide +kernel
theorem dX11_worked_0 : decode cX11_worked 0 = .ok (.iload_n 0, 1) := by decide +kernel
theorem dX11_worked_1 : decode cX11_worked 1 = .ok (.iconst 1, 1) := by decide +kernel
theorem dX11_worked_2 : decode cX11_worked 2 = .ok (.if_icmp .ne 9, 3) := by decide +kernel
theorem dX11_worked_5 : decode cX11_worked 5 = .ok (.iload_n 1, 1) := by decide +kernel
theorem dX11_worked_6 : decode cX11_worked 6 = .ok (.iload_n 2, 1) := by decide +kernel
theorem dX11_worked_7 : decode cX11_worked 7 = .ok (.iadd, 1) := by decide +kernel
theorem dX11_worked_8 : decode cX11_worked 8 = .ok (.goto 35, 3) := by decide +kernel
theorem dX11_worked_11 : decode cX11_worked 11 = .ok (.iload_n 0, 1) := by decide +kernel
theorem dX11_worked_12 : decode cX11_worked 12 = .ok (.iconst 2, 1) := by decide +kernel
theorem dX11_worked_13 : decode cX11_worked 13 = .ok (.if_icmp .ne 9, 3) := by decide +kernel
theorem dX11_worked_16 : decode cX11_worked 16 = .ok (.iload_n 1, 1) := by decide +kernel
theorem dX11_worked_17 : decode cX11_worked 17 = .ok (.iload_n 2, 1) := by decide +kernel
theorem dX11_worked_18 : decode cX11_worked 18 = .ok (.isub, 1) := by decide +kernel
theorem dX11_worked_19 : decode cX11_worked 19 = .ok (.goto 24, 3) := by decide +kernel
theorem dX11_worked_22 : decode cX11_worked 22 = .ok (.iload_n 0, 1) := by decide +kernel
theorem dX11_worked_23 : decode cX11_worked 23 = .ok (.iconst 3, 1) := by decide +kernel
theorem dX11_worked_24 : decode cX11_worked 24 = .ok (.if_icmp .ne 9, 3) := by decide +kernel
theorem dX11_worked_27 : decode cX11_worked 27 = .ok (.iload_n 1, 1) := by decide +kernel
theorem dX11_worked_28 : decode cX11_worked 28 = .ok (.iload_n 2, 1) := by decide +kernel
theorem dX11_worked_29 : decode cX11_worked 29 = .ok (.imul, 1) := by decide +kernel
theorem dX11_worked_30 : decode cX11_worked 30 = .ok (.goto 13, 3) := by decide +kernel
theorem dX11_worked_33 : decode cX11_worked 33 = .ok (.iload_n 1, 1) := by decide +kernel
theorem dX11_worked_34 : decode cX11_worked 34 = .ok (.iload_n 2, 1) := by decide +kernel
theorem dX11_worked_35 : decode cX11_worked 35 = .ok (.if_icmp .ge 7, 3) := by decide +kernel
theorem dX11_worked_38 : decode cX11_worked 38 = .ok (.iconst 1, 1) := by decide +kernel
theorem dX11_worked_39 : decode cX11_worked 39 = .ok (.goto 4, 3) := by decide +kernel
theorem dX11_worked_42 : decode cX11_worked 42 = .ok (.iconst 0, 1) := by decide +kernel
theorem dX11_worked_43 : decode cX11_worked 43 = .ok (.ireturn, 1) := by decide +kernel
end
section
/-! how the bytes of each method read -/
theorem dX11_does_0 : decode cX11_does 0 = .ok (.aload_n 0, 1) := by decide +kernel
theorem dX11_does_1 : decode cX11_does 1 = .ok (.getfield 104, 3) := by decide +kernel
theorem dX11_does_4 : decode cX11_does 4 = .ok (.iload_n 1, 1) := by decide +kernel
theorem dX11_does_5 : decode cX11_does 5 = .ok (.iaload, 1) := by decide +kernel
theorem dX11_does_6 : decode cX11_does 6 = .ok (.istore_n 2, 1) := by decide +kernel
theorem dX11_does_7 : decode cX11_does 7 = .ok (.aload_n 0, 1) := by decide +kernel
theorem dX11_does_8 : decode cX11_does 8 = .ok (.getfield 101, 3) := by decide +kernel
theorem dX11_does_11 : decode cX11_does 11 = .ok (.iload_n 1, 1) := by decide +kernel
theorem dX11_does_12 : decode cX11_does 12 = .ok (.iaload, 1) := by decide +kernel
theorem dX11_does_13 : decode cX11_does 13 = .ok (.tableswitch 259 0 15 #[79, 87, 87, 87, 117, 137, 162, 175, 188, 201, 203, 87, 218, 259, 259, 246], 79) := by decide +kernel
theorem dX11_does_92 : decode cX11_does 92 = .ok (.aload_n 0, 1) := by decide +kernel
theorem dX11_does_93 : decode cX11_does 93 = .ok (.iload_n 2, 1) := by decide +kernel
theorem dX11_does_94 : decode cX11_does 94 = .ok (.invokevirtual 186, 3) := by decide +kernel
theorem dX11_does_97 : decode cX11_does 97 = .ok (.goto 175, 3) := by decide +kernel
theorem dX11_does_100 : decode cX11_does 100 = .ok (.aload_n 0, 1) := by decide +kernel
theorem dX11_does_101 : decode cX11_does 101 = .ok (.invokevirtual 189, 3) := by decide +kernel
theorem dX11_does_104 : decode cX11_does 104 = .ok (.istore_n 3, 1) := by decide +kernel
theorem dX11_does_105 : decode cX11_does 105 = .ok (.aload_n 0, 1) := by decide +kernel
theorem dX11_does_106 : decode cX11_does 106 = .ok (.invokevirtual 189, 3) := by decide +kernel
theorem dX11_does_109 : decode cX11_does 109 = .ok (.istore 4, 2) := by decide +kernel
theorem dX11_does_111 : decode cX11_does 111 = .ok (.aload_n 0, 1) := by decide +kernel
theorem dX11_does_112 : decode cX11_does 112 = .ok (.aload_n 0, 1) := by decide +kernel
theorem dX11_does_113 : decode cX11_does 113 = .ok (.getfield 101, 3) := by decide +kernel
theorem dX11_does_116 : decode cX11_does 116 = .ok (.iload_n 1, 1) := by decide +kernel
theorem dX11_does_117 : decode cX11_does 117 = .ok (.iaload, 1) := by decide +kernel
theorem dX11_does_118 : decode cX11_does 118 = .ok (.iload 4, 2) := by decide +kernel
theorem dX11_does_120 : decode cX11_does 120 = .ok (.iload_n 3, 1) := by decide +kernel
theorem dX11_does_121 : decode cX11_does 121 = .ok (.invokestatic 193, 3) := by decide +kernel
theorem dX11_does_124 : decode cX11_does 124 = .ok (.invokevirtual 186, 3) := by decide +kernel
theorem dX11_does_127 : decode cX11_does 127 = .ok (.goto 145, 3) := by decide +kernel
theorem dX11_does_130 : decode cX11_does 130 = .ok (.aload_n 0, 1) := by decide +kernel
theorem dX11_does_131 : decode cX11_does 131 = .ok (.aload_n 0, 1) := by decide +kernel
theorem dX11_does_132 : decode cX11_does 132 = .ok (.getfield 67, 3) := by decide +kernel
theorem dX11_does_135 : decode cX11_does 135 = .ok (.aload_n 0, 1) := by decide +kernel
theorem dX11_does_136 : decode cX11_does 136 = .ok (.getfield 64, 3) := by decide +kernel
theorem dX11_does_139 : decode cX11_does 139 = .ok (.iconst 0, 1) := by decide +kernel
theorem dX11_does_140 : decode cX11_does 140 = .ok (.iaload, 1) := by decide +kernel
theorem dX11_does_141 : decode cX11_does 141 = .ok (.iconst 1, 1) := by decide +kernel
theorem dX11_does_142 : decode cX11_does 142 = .ok (.isub, 1) := by decide +kernel
theorem dX11_does_143 : decode cX11_does 143 = .ok (.iaload, 1) := by decide +kernel
theorem dX11_does_144 : decode cX11_does 144 = .ok (.invokevirtual 186, 3) := by decide +kernel
theorem dX11_does_147 : decode cX11_does 147 = .ok (.goto 125, 3) := by decide +kernel
theorem dX11_does_150 : decode cX11_does 150 = .ok (.aload_n 0, 1) := by decide +kernel
theorem dX11_does_151 : decode cX11_does 151 = .ok (.invokevirtual 189, 3) := by decide +kernel
theorem dX11_does_154 : decode cX11_does 154 = .ok (.istore_n 3, 1) := by decide +kernel
theorem dX11_does_155 : decode cX11_does 155 = .ok (.aload_n 0, 1) := by decide +kernel
theorem dX11_does_156 : decode cX11_does 156 = .ok (.invokevirtual 189, 3) := by decide +kernel
theorem dX11_does_159 : decode cX11_does 159 = .ok (.istore 4, 2) := by decide +kernel
theorem dX11_does_161 : decode cX11_does 161 = .ok (.aload_n 0, 1) := by decide +kernel
theorem dX11_does_162 : decode cX11_does 162 = .ok (.iload_n 3, 1) := by decide +kernel
theorem dX11_does_163 : decode cX11_does 163 = .ok (.invokevirtual 186, 3) := by decide +kernel
theorem dX11_does_166 : decode cX11_does 166 = .ok (.aload_n 0, 1) := by decide +kernel
theorem dX11_does_167 : decode cX11_does 167 = .ok (.iload 4, 2) := by decide +kernel
theorem dX11_does_169 : decode cX11_does 169 = .ok (.invokevirtual 186, 3) := by decide +kernel
theorem dX11_does_172 : decode cX11_does 172 = .ok (.goto 100, 3) := by decide +kernel
theorem dX11_does_175 : decode cX11_does 175 = .ok (.aload_n 0, 1) := by decide +kernel
theorem dX11_does_176 : decode cX11_does 176 = .ok (.getfield 64, 3) := by decide +kernel
theorem dX11_does_179 : decode cX11_does 179 = .ok (.iconst 0, 1) := by decide +kernel
theorem dX11_does_180 : decode cX11_does 180 = .ok (.dup2, 1) := by decide +kernel
theorem dX11_does_181 : decode cX11_does 181 = .ok (.iaload, 1) := by decide +kernel
theorem dX11_does_182 : decode cX11_does 182 = .ok (.iconst 1, 1) := by decide +kernel
theorem dX11_does_183 : decode cX11_does 183 = .ok (.isub, 1) := by decide +kernel
theorem dX11_does_184 : decode cX11_does 184 = .ok (.iastore, 1) := by decide +kernel
theorem dX11_does_185 : decode cX11_does 185 = .ok (.goto 87, 3) := by decide +kernel
theorem dX11_does_188 : decode cX11_does 188 = .ok (.aload_n 0, 1) := by decide +kernel
theorem dX11_does_189 : decode cX11_does 189 = .ok (.aload_n 0, 1) := by decide +kernel
theorem dX11_does_190 : decode cX11_does 190 = .ok (.getfield 76, 3) := by decide +kernel
theorem dX11_does_193 : decode cX11_does 193 = .ok (.iload_n 2, 1) := by decide +kernel
theorem dX11_does_194 : decode cX11_does 194 = .ok (.iaload, 1) := by decide +kernel
theorem dX11_does_195 : decode cX11_does 195 = .ok (.invokevirtual 186, 3) := by decide +kernel
theorem dX11_does_198 : decode cX11_does 198 = .ok (.goto 74, 3) := by decide +kernel
theorem dX11_does_201 : decode cX11_does 201 = .ok (.aload_n 0, 1) := by decide +kernel
theorem dX11_does_202 : decode cX11_does 202 = .ok (.getfield 76, 3) := by decide +kernel
theorem dX11_does_205 : decode cX11_does 205 = .ok (.iload_n 2, 1) := by decide +kernel
theorem dX11_does_206 : decode cX11_does 206 = .ok (.aload_n 0, 1) := by decide +kernel
theorem dX11_does_207 : decode cX11_does 207 = .ok (.invokevirtual 189, 3) := by decide +kernel
theorem dX11_does_210 : decode cX11_does 210 = .ok (.iastore, 1) := by decide +kernel
theorem dX11_does_211 : decode cX11_does 211 = .ok (.goto 61, 3) := by decide +kernel
theorem dX11_does_214 : decode cX11_does 214 = .ok (.iload_n 2, 1) := by decide +kernel
theorem dX11_does_215 : decode cX11_does 215 = .ok (.ireturn, 1) := by decide +kernel
theorem dX11_does_216 : decode cX11_does 216 = .ok (.aload_n 0, 1) := by decide +kernel
theorem dX11_does_217 : decode cX11_does 217 = .ok (.invokevirtual 189, 3) := by decide +kernel
theorem dX11_does_220 : decode cX11_does 220 = .ok (.ifCond .ne 7, 3) := by decide +kernel
theorem dX11_does_223 : decode cX11_does 223 = .ok (.iload_n 2, 1) := by decide +kernel
theorem dX11_does_224 : decode cX11_does 224 = .ok (.goto 6, 3) := by decide +kernel
theorem dX11_does_227 : decode cX11_does 227 = .ok (.iload_n 1, 1) := by decide +kernel
theorem dX11_does_228 : decode cX11_does 228 = .ok (.iconst 1, 1) := by decide +kernel
theorem dX11_does_229 : decode cX11_does 229 = .ok (.iadd, 1) := by decide +kernel
theorem dX11_does_230 : decode cX11_does 230 = .ok (.ireturn, 1) := by decide +kernel
theorem dX11_does_231 : decode cX11_does 231 = .ok (.aload_n 0, 1) := by decide +kernel
theorem dX11_does_232 : decode cX11_does 232 = .ok (.getfield 73, 3) := by decide +kernel
theorem dX11_does_235 : decode cX11_does 235 = .ok (.aload_n 0, 1) := by decide +kernel
theorem dX11_does_236 : decode cX11_does 236 = .ok (.getfield 70, 3) := by decide +kernel
theorem dX11_does_239 : decode cX11_does 239 = .ok (.iconst 0, 1) := by decide +kernel
theorem dX11_does_240 : decode cX11_does 240 = .ok (.iaload, 1) := by decide +kernel
theorem dX11_does_241 : decode cX11_does 241 = .ok (.aload_n 0, 1) := by decide +kernel
theorem dX11_does_242 : decode cX11_does 242 = .ok (.invokevirtual 189, 3) := by decide +kernel
theorem dX11_does_245 : decode cX11_does 245 = .ok (.iastore, 1) := by decide +kernel
theorem dX11_does_246 : decode cX11_does 246 = .ok (.aload_n 0, 1) := by decide +kernel
theorem dX11_does_247 : decode cX11_does 247 = .ok (.getfield 70, 3) := by decide +kernel
theorem dX11_does_250 : decode cX11_does 250 = .ok (.iconst 0, 1) := by decide +kernel
theorem dX11_does_251 : decode cX11_does 251 = .ok (.dup2, 1) := by decide +kernel
theorem dX11_does_252 : decode cX11_does 252 = .ok (.iaload, 1) := by decide +kernel
theorem dX11_does_253 : decode cX11_does 253 = .ok (.iconst 1, 1) := by decide +kernel
theorem dX11_does_254 : decode cX11_does 254 = .ok (.iadd, 1) := by decide +kernel
theorem dX11_does_255 : decode cX11_does 255 = .ok (.iastore, 1) := by decide +kernel
theorem dX11_does_256 : decode cX11_does 256 = .ok (.goto 16, 3) := by decide +kernel
theorem dX11_does_259 : decode cX11_does 259 = .ok (.aload_n 0, 1) := by decide +kernel
theorem dX11_does_260 : decode cX11_does 260 = .ok (.getfield 76, 3) := by decide +kernel
theorem dX11_does_263 : decode cX11_does 263 = .ok (.iload_n 2, 1) := by decide +kernel
theorem dX11_does_264 : decode cX11_does 264 = .ok (.dup2, 1) := by decide +kernel
theorem dX11_does_265 : decode cX11_does 265 = .ok (.iaload, 1) := by decide +kernel
theorem dX11_does_266 : decode cX11_does 266 = .ok (.iconst 1, 1) := by decide +kernel
theorem dX11_does_267 : decode cX11_does 267 = .ok (.iadd, 1) := by decide +kernel
theorem dX11_does_268 : decode cX11_does 268 = .ok (.iastore, 1) := by decide +kernel
theorem dX11_does_269 : decode cX11_does 269 = .ok (.goto 3, 3) := by decide +kernel
theorem dX11_does_272 : decode cX11_does 272 = .ok (.iload_n 1, 1) := by decide +kernel
theorem dX11_does_273 : decode cX11_does 273 = .ok (.iconst 1, 1) := by decide +kernel
theorem dX11_does_274 : decode cX11_does 274 = .ok (.iadd, 1) := by decide +kernel
theorem dX11_does_275 : decode cX11_does 275 = .ok (.ireturn, 1) := by decide +kernel
theorem dX11_runs_0 : decode cX11_runs 0 = .ok (.aload_n 0, 1) := by decide +kernel
theorem dX11_runs_1 : decode cX11_runs 1 = .ok (.getfield 55, 3) := by decide +kernel
theorem dX11_runs_4 : decode cX11_runs 4 = .ok (.iconst 0, 1) := by decide +kernel
theorem dX11_runs_5 : decode cX11_runs 5 = .ok (.iconst 0, 1) := by decide +kernel
theorem dX11_runs_6 : decode cX11_runs 6 = .ok (.iastore, 1) := by decide +kernel
theorem dX11_runs_7 : decode cX11_runs 7 = .ok (.aload_n 0, 1) := by decide +kernel
theorem dX11_runs_8 : decode cX11_runs 8 = .ok (.getfield 58, 3) := by decide +kernel
theorem dX11_runs_11 : decode cX11_runs 11 = .ok (.iconst 0, 1) := by decide +kernel
theorem dX11_runs_12 : decode cX11_runs 12 = .ok (.iconst 0, 1) := by decide +kernel
theorem dX11_runs_13 : decode cX11_runs 13 = .ok (.iastore, 1) := by decide +kernel
theorem dX11_runs_14 : decode cX11_runs 14 = .ok (.aload_n 0, 1) := by decide +kernel
theorem dX11_runs_15 : decode cX11_runs 15 = .ok (.getfield 64, 3) := by decide +kernel
theorem dX11_runs_18 : decode cX11_runs 18 = .ok (.iconst 0, 1) := by decide +kernel
theorem dX11_runs_19 : decode cX11_runs 19 = .ok (.iconst 0, 1) := by decide +kernel
theorem dX11_runs_20 : decode cX11_runs 20 = .ok (.iastore, 1) := by decide +kernel
theorem dX11_runs_21 : decode cX11_runs 21 = .ok (.aload_n 0, 1) := by decide +kernel
theorem dX11_runs_22 : decode cX11_runs 22 = .ok (.getfield 70, 3) := by decide +kernel
theorem dX11_runs_25 : decode cX11_runs 25 = .ok (.iconst 0, 1) := by decide +kernel
theorem dX11_runs_26 : decode cX11_runs 26 = .ok (.iconst 0, 1) := by decide +kernel
theorem dX11_runs_27 : decode cX11_runs 27 = .ok (.iastore, 1) := by decide +kernel
theorem dX11_runs_28 : decode cX11_runs 28 = .ok (.iconst 0, 1) := by decide +kernel
theorem dX11_runs_29 : decode cX11_runs 29 = .ok (.istore_n 3, 1) := by decide +kernel
theorem dX11_runs_30 : decode cX11_runs 30 = .ok (.iload_n 3, 1) := by decide +kernel
theorem dX11_runs_31 : decode cX11_runs 31 = .ok (.bipush 8, 2) := by decide +kernel
theorem dX11_runs_33 : decode cX11_runs 33 = .ok (.if_icmp .ge 16, 3) := by decide +kernel
theorem dX11_runs_36 : decode cX11_runs 36 = .ok (.aload_n 0, 1) := by decide +kernel
theorem dX11_runs_37 : decode cX11_runs 37 = .ok (.getfield 76, 3) := by decide +kernel
theorem dX11_runs_40 : decode cX11_runs 40 = .ok (.iload_n 3, 1) := by decide +kernel
theorem dX11_runs_41 : decode cX11_runs 41 = .ok (.iconst 0, 1) := by decide +kernel
theorem dX11_runs_42 : decode cX11_runs 42 = .ok (.iastore, 1) := by decide +kernel
theorem dX11_runs_43 : decode cX11_runs 43 = .ok (.iinc 3 1, 3) := by decide +kernel
theorem dX11_runs_46 : decode cX11_runs 46 = .ok (.goto (-16), 3) := by decide +kernel
theorem dX11_runs_49 : decode cX11_runs 49 = .ok (.iconst 0, 1) := by decide +kernel
theorem dX11_runs_50 : decode cX11_runs 50 = .ok (.istore_n 3, 1) := by decide +kernel
theorem dX11_runs_51 : decode cX11_runs 51 = .ok (.iload_n 3, 1) := by decide +kernel
theorem dX11_runs_52 : decode cX11_runs 52 = .ok (.bipush 40, 2) := by decide +kernel
theorem dX11_runs_54 : decode cX11_runs 54 = .ok (.if_icmp .ge 16, 3) := by decide +kernel
theorem dX11_runs_57 : decode cX11_runs 57 = .ok (.aload_n 0, 1) := by decide +kernel
theorem dX11_runs_58 : decode cX11_runs 58 = .ok (.getfield 107, 3) := by decide +kernel
theorem dX11_runs_61 : decode cX11_runs 61 = .ok (.iload_n 3, 1) := by decide +kernel
theorem dX11_runs_62 : decode cX11_runs 62 = .ok (.iconst 0, 1) := by decide +kernel
theorem dX11_runs_63 : decode cX11_runs 63 = .ok (.iastore, 1) := by decide +kernel
theorem dX11_runs_64 : decode cX11_runs 64 = .ok (.iinc 3 1, 3) := by decide +kernel
theorem dX11_runs_67 : decode cX11_runs 67 = .ok (.goto (-16), 3) := by decide +kernel
theorem dX11_runs_70 : decode cX11_runs 70 = .ok (.iconst 0, 1) := by decide +kernel
theorem dX11_runs_71 : decode cX11_runs 71 = .ok (.istore_n 3, 1) := by decide +kernel
theorem dX11_runs_72 : decode cX11_runs 72 = .ok (.bipush 99, 2) := by decide +kernel
theorem dX11_runs_74 : decode cX11_runs 74 = .ok (.istore 4, 2) := by decide +kernel
theorem dX11_runs_76 : decode cX11_runs 76 = .ok (.iload 4, 2) := by decide +kernel
theorem dX11_runs_78 : decode cX11_runs 78 = .ok (.bipush 99, 2) := by decide +kernel
theorem dX11_runs_80 : decode cX11_runs 80 = .ok (.if_icmp .ne 208, 3) := by decide +kernel
theorem dX11_runs_83 : decode cX11_runs 83 = .ok (.aload_n 0, 1) := by decide +kernel
theorem dX11_runs_84 : decode cX11_runs 84 = .ok (.getfield 61, 3) := by decide +kernel
theorem dX11_runs_87 : decode cX11_runs 87 = .ok (.iconst 0, 1) := by decide +kernel
theorem dX11_runs_88 : decode cX11_runs 88 = .ok (.iload_n 3, 1) := by decide +kernel
theorem dX11_runs_89 : decode cX11_runs 89 = .ok (.iastore, 1) := by decide +kernel
theorem dX11_runs_90 : decode cX11_runs 90 = .ok (.iload_n 3, 1) := by decide +kernel
theorem dX11_runs_91 : decode cX11_runs 91 = .ok (.iload_n 1, 1) := by decide +kernel
theorem dX11_runs_92 : decode cX11_runs 92 = .ok (.if_icmp .lt 9, 3) := by decide +kernel
theorem dX11_runs_95 : decode cX11_runs 95 = .ok (.iconst 0, 1) := by decide +kernel
theorem dX11_runs_96 : decode cX11_runs 96 = .ok (.istore 4, 2) := by decide +kernel
theorem dX11_runs_98 : decode cX11_runs 98 = .ok (.goto (-22), 3) := by decide +kernel
theorem dX11_runs_101 : decode cX11_runs 101 = .ok (.aload_n 0, 1) := by decide +kernel
theorem dX11_runs_102 : decode cX11_runs 102 = .ok (.getfield 55, 3) := by decide +kernel
theorem dX11_runs_105 : decode cX11_runs 105 = .ok (.iconst 0, 1) := by decide +kernel
theorem dX11_runs_106 : decode cX11_runs 106 = .ok (.iaload, 1) := by decide +kernel
theorem dX11_runs_107 : decode cX11_runs 107 = .ok (.iload_n 2, 1) := by decide +kernel
theorem dX11_runs_108 : decode cX11_runs 108 = .ok (.if_icmp .ne 9, 3) := by decide +kernel
theorem dX11_runs_111 : decode cX11_runs 111 = .ok (.iconst 3, 1) := by decide +kernel
theorem dX11_runs_112 : decode cX11_runs 112 = .ok (.istore 4, 2) := by decide +kernel
theorem dX11_runs_114 : decode cX11_runs 114 = .ok (.goto (-38), 3) := by decide +kernel
theorem dX11_runs_117 : decode cX11_runs 117 = .ok (.aload_n 0, 1) := by decide +kernel
theorem dX11_runs_118 : decode cX11_runs 118 = .ok (.getfield 101, 3) := by decide +kernel
theorem dX11_runs_121 : decode cX11_runs 121 = .ok (.iload_n 3, 1) := by decide +kernel
theorem dX11_runs_122 : decode cX11_runs 122 = .ok (.iaload, 1) := by decide +kernel
theorem dX11_runs_123 : decode cX11_runs 123 = .ok (.istore 5, 2) := by decide +kernel
theorem dX11_runs_125 : decode cX11_runs 125 = .ok (.aload_n 0, 1) := by decide +kernel
theorem dX11_runs_126 : decode cX11_runs 126 = .ok (.getfield 58, 3) := by decide +kernel
theorem dX11_runs_129 : decode cX11_runs 129 = .ok (.iconst 0, 1) := by decide +kernel
theorem dX11_runs_130 : decode cX11_runs 130 = .ok (.dup2, 1) := by decide +kernel
theorem dX11_runs_131 : decode cX11_runs 131 = .ok (.iaload, 1) := by decide +kernel
theorem dX11_runs_132 : decode cX11_runs 132 = .ok (.aload_n 0, 1) := by decide +kernel
theorem dX11_runs_133 : decode cX11_runs 133 = .ok (.getfield 110, 3) := by decide +kernel
theorem dX11_runs_136 : decode cX11_runs 136 = .ok (.iload_n 3, 1) := by decide +kernel
theorem dX11_runs_137 : decode cX11_runs 137 = .ok (.baload, 1) := by decide +kernel
theorem dX11_runs_138 : decode cX11_runs 138 = .ok (.ifCond .eq 7, 3) := by decide +kernel
theorem dX11_runs_141 : decode cX11_runs 141 = .ok (.iconst 1, 1) := by decide +kernel
theorem dX11_runs_142 : decode cX11_runs 142 = .ok (.goto 4, 3) := by decide +kernel
theorem dX11_runs_145 : decode cX11_runs 145 = .ok (.iconst 0, 1) := by decide +kernel
theorem dX11_runs_146 : decode cX11_runs 146 = .ok (.iadd, 1) := by decide +kernel
theorem dX11_runs_147 : decode cX11_runs 147 = .ok (.iastore, 1) := by decide +kernel
theorem dX11_runs_148 : decode cX11_runs 148 = .ok (.aload_n 0, 1) := by decide +kernel
theorem dX11_runs_149 : decode cX11_runs 149 = .ok (.getfield 64, 3) := by decide +kernel
theorem dX11_runs_152 : decode cX11_runs 152 = .ok (.iconst 0, 1) := by decide +kernel
theorem dX11_runs_153 : decode cX11_runs 153 = .ok (.iaload, 1) := by decide +kernel
theorem dX11_runs_154 : decode cX11_runs 154 = .ok (.bipush 24, 2) := by decide +kernel
theorem dX11_runs_156 : decode cX11_runs 156 = .ok (.if_icmp .ne 21, 3) := by decide +kernel
theorem dX11_runs_159 : decode cX11_runs 159 = .ok (.iload 5, 2) := by decide +kernel
theorem dX11_runs_161 : decode cX11_runs 161 = .ok (.ifCond .eq 34, 3) := by decide +kernel
theorem dX11_runs_164 : decode cX11_runs 164 = .ok (.iload 5, 2) := by decide +kernel
theorem dX11_runs_166 : decode cX11_runs 166 = .ok (.iconst 4, 1) := by decide +kernel
theorem dX11_runs_167 : decode cX11_runs 167 = .ok (.if_icmp .eq 28, 3) := by decide +kernel
theorem dX11_runs_170 : decode cX11_runs 170 = .ok (.iload 5, 2) := by decide +kernel
theorem dX11_runs_172 : decode cX11_runs 172 = .ok (.bipush 7, 2) := by decide +kernel
theorem dX11_runs_174 : decode cX11_runs 174 = .ok (.if_icmp .eq 21, 3) := by decide +kernel
theorem dX11_runs_177 : decode cX11_runs 177 = .ok (.aload_n 0, 1) := by decide +kernel
theorem dX11_runs_178 : decode cX11_runs 178 = .ok (.getfield 70, 3) := by decide +kernel
theorem dX11_runs_181 : decode cX11_runs 181 = .ok (.iconst 0, 1) := by decide +kernel
theorem dX11_runs_182 : decode cX11_runs 182 = .ok (.iaload, 1) := by decide +kernel
theorem dX11_runs_183 : decode cX11_runs 183 = .ok (.bipush 40, 2) := by decide +kernel
theorem dX11_runs_185 : decode cX11_runs 185 = .ok (.if_icmp .ne 14, 3) := by decide +kernel
theorem dX11_runs_188 : decode cX11_runs 188 = .ok (.iload 5, 2) := by decide +kernel
theorem dX11_runs_190 : decode cX11_runs 190 = .ok (.bipush 12, 2) := by decide +kernel
theorem dX11_runs_192 : decode cX11_runs 192 = .ok (.if_icmp .ne 7, 3) := by decide +kernel
theorem dX11_runs_195 : decode cX11_runs 195 = .ok (.iconst 1, 1) := by decide +kernel
theorem dX11_runs_196 : decode cX11_runs 196 = .ok (.goto 4, 3) := by decide +kernel
theorem dX11_runs_199 : decode cX11_runs 199 = .ok (.iconst 0, 1) := by decide +kernel
theorem dX11_runs_200 : decode cX11_runs 200 = .ok (.istore 6, 2) := by decide +kernel
theorem dX11_runs_202 : decode cX11_runs 202 = .ok (.aload_n 0, 1) := by decide +kernel
theorem dX11_runs_203 : decode cX11_runs 203 = .ok (.getfield 64, 3) := by decide +kernel
theorem dX11_runs_206 : decode cX11_runs 206 = .ok (.iconst 0, 1) := by decide +kernel
theorem dX11_runs_207 : decode cX11_runs 207 = .ok (.iaload, 1) := by decide +kernel
theorem dX11_runs_208 : decode cX11_runs 208 = .ok (.iload 5, 2) := by decide +kernel
theorem dX11_runs_210 : decode cX11_runs 210 = .ok (.invokestatic 197, 3) := by decide +kernel
theorem dX11_runs_213 : decode cX11_runs 213 = .ok (.if_icmp .ge 9, 3) := by decide +kernel
theorem dX11_runs_216 : decode cX11_runs 216 = .ok (.iconst 1, 1) := by decide +kernel
theorem dX11_runs_217 : decode cX11_runs 217 = .ok (.istore 4, 2) := by decide +kernel
theorem dX11_runs_219 : decode cX11_runs 219 = .ok (.goto 66, 3) := by decide +kernel
theorem dX11_runs_222 : decode cX11_runs 222 = .ok (.iload 6, 2) := by decide +kernel
theorem dX11_runs_224 : decode cX11_runs 224 = .ok (.ifCond .eq 9, 3) := by decide +kernel
theorem dX11_runs_227 : decode cX11_runs 227 = .ok (.iconst 2, 1) := by decide +kernel
theorem dX11_runs_228 : decode cX11_runs 228 = .ok (.istore 4, 2) := by decide +kernel
theorem dX11_runs_230 : decode cX11_runs 230 = .ok (.goto 55, 3) := by decide +kernel
theorem dX11_runs_233 : decode cX11_runs 233 = .ok (.aload_n 0, 1) := by decide +kernel
theorem dX11_runs_234 : decode cX11_runs 234 = .ok (.getfield 55, 3) := by decide +kernel
theorem dX11_runs_237 : decode cX11_runs 237 = .ok (.iconst 0, 1) := by decide +kernel
theorem dX11_runs_238 : decode cX11_runs 238 = .ok (.dup2, 1) := by decide +kernel
theorem dX11_runs_239 : decode cX11_runs 239 = .ok (.iaload, 1) := by decide +kernel
theorem dX11_runs_240 : decode cX11_runs 240 = .ok (.iconst 1, 1) := by decide +kernel
theorem dX11_runs_241 : decode cX11_runs 241 = .ok (.iadd, 1) := by decide +kernel
theorem dX11_runs_242 : decode cX11_runs 242 = .ok (.iastore, 1) := by decide +kernel
theorem dX11_runs_243 : decode cX11_runs 243 = .ok (.aload_n 0, 1) := by decide +kernel
theorem dX11_runs_244 : decode cX11_runs 244 = .ok (.getfield 107, 3) := by decide +kernel
theorem dX11_runs_247 : decode cX11_runs 247 = .ok (.iload_n 3, 1) := by decide +kernel
theorem dX11_runs_248 : decode cX11_runs 248 = .ok (.dup2, 1) := by decide +kernel
theorem dX11_runs_249 : decode cX11_runs 249 = .ok (.iaload, 1) := by decide +kernel
theorem dX11_runs_250 : decode cX11_runs 250 = .ok (.iconst 1, 1) := by decide +kernel
theorem dX11_runs_251 : decode cX11_runs 251 = .ok (.iadd, 1) := by decide +kernel
theorem dX11_runs_252 : decode cX11_runs 252 = .ok (.iastore, 1) := by decide +kernel
theorem dX11_runs_253 : decode cX11_runs 253 = .ok (.iload 5, 2) := by decide +kernel
theorem dX11_runs_255 : decode cX11_runs 255 = .ok (.bipush 13, 2) := by decide +kernel
theorem dX11_runs_257 : decode cX11_runs 257 = .ok (.if_icmp .ne 7, 3) := by decide +kernel
theorem dX11_runs_260 : decode cX11_runs 260 = .ok (.iconst 0, 1) := by decide +kernel
theorem dX11_runs_261 : decode cX11_runs 261 = .ok (.goto 5, 3) := by decide +kernel
theorem dX11_runs_264 : decode cX11_runs 264 = .ok (.bipush 99, 2) := by decide +kernel
theorem dX11_runs_266 : decode cX11_runs 266 = .ok (.istore 4, 2) := by decide +kernel
theorem dX11_runs_268 : decode cX11_runs 268 = .ok (.iload 5, 2) := by decide +kernel
theorem dX11_runs_270 : decode cX11_runs 270 = .ok (.bipush 13, 2) := by decide +kernel
theorem dX11_runs_272 : decode cX11_runs 272 = .ok (.if_icmp .ne 7, 3) := by decide +kernel
theorem dX11_runs_275 : decode cX11_runs 275 = .ok (.iload_n 3, 1) := by decide +kernel
theorem dX11_runs_276 : decode cX11_runs 276 = .ok (.goto 8, 3) := by decide +kernel
theorem dX11_runs_279 : decode cX11_runs 279 = .ok (.aload_n 0, 1) := by decide +kernel
theorem dX11_runs_280 : decode cX11_runs 280 = .ok (.iload_n 3, 1) := by decide +kernel
theorem dX11_runs_281 : decode cX11_runs 281 = .ok (.invokevirtual 201, 3) := by decide +kernel
theorem dX11_runs_284 : decode cX11_runs 284 = .ok (.istore_n 3, 1) := by decide +kernel
theorem dX11_runs_285 : decode cX11_runs 285 = .ok (.goto (-209), 3) := by decide +kernel
theorem dX11_runs_288 : decode cX11_runs 288 = .ok (.aload_n 0, 1) := by decide +kernel
theorem dX11_runs_289 : decode cX11_runs 289 = .ok (.getfield 52, 3) := by decide +kernel
theorem dX11_runs_292 : decode cX11_runs 292 = .ok (.iconst 0, 1) := by decide +kernel
theorem dX11_runs_293 : decode cX11_runs 293 = .ok (.iload 4, 2) := by decide +kernel
theorem dX11_runs_295 : decode cX11_runs 295 = .ok (.iastore, 1) := by decide +kernel
theorem dX11_runs_296 : decode cX11_runs 296 = .ok (.iload 4, 2) := by decide +kernel
theorem dX11_runs_298 : decode cX11_runs 298 = .ok (.ireturn, 1) := by decide +kernel
theorem dX11_run_0 : decode cX11_run 0 = .ok (.aload_n 0, 1) := by decide +kernel
theorem dX11_run_1 : decode cX11_run 1 = .ok (.iconst 0, 1) := by decide +kernel
theorem dX11_run_2 : decode cX11_run 2 = .ok (.putfield 134, 3) := by decide +kernel
theorem dX11_run_5 : decode cX11_run 5 = .ok (.iload_n 3, 1) := by decide +kernel
theorem dX11_run_6 : decode cX11_run 6 = .ok (.iconst 0, 1) := by decide +kernel
theorem dX11_run_7 : decode cX11_run 7 = .ok (.sipush 20000, 3) := by decide +kernel
theorem dX11_run_10 : decode cX11_run 10 = .ok (.invokestatic 142, 3) := by decide +kernel
theorem dX11_run_13 : decode cX11_run 13 = .ok (.ifCond .eq 28, 3) := by decide +kernel
theorem dX11_run_16 : decode cX11_run 16 = .ok (.iload_n 2, 1) := by decide +kernel
theorem dX11_run_17 : decode cX11_run 17 = .ok (.ifCond .eq 16, 3) := by decide +kernel
theorem dX11_run_20 : decode cX11_run 20 = .ok (.aload_n 0, 1) := by decide +kernel
theorem dX11_run_21 : decode cX11_run 21 = .ok (.getfield 40, 3) := by decide +kernel
theorem dX11_run_24 : decode cX11_run 24 = .ok (.iconst 0, 1) := by decide +kernel
theorem dX11_run_25 : decode cX11_run 25 = .ok (.iaload, 1) := by decide +kernel
theorem dX11_run_26 : decode cX11_run 26 = .ok (.iconst (-1), 1) := by decide +kernel
theorem dX11_run_27 : decode cX11_run 27 = .ok (.if_icmp .ne 16, 3) := by decide +kernel
theorem dX11_run_30 : decode cX11_run 30 = .ok (.goto 11, 3) := by decide +kernel
theorem dX11_run_33 : decode cX11_run 33 = .ok (.aload_n 0, 1) := by decide +kernel
theorem dX11_run_34 : decode cX11_run 34 = .ok (.iload_n 1, 1) := by decide +kernel
theorem dX11_run_35 : decode cX11_run 35 = .ok (.invokevirtual 150, 3) := by decide +kernel
theorem dX11_run_38 : decode cX11_run 38 = .ok (.ifCond .ne 5, 3) := by decide +kernel
theorem dX11_run_41 : decode cX11_run 41 = .ok (.iconst (-1), 1) := by decide +kernel
theorem dX11_run_42 : decode cX11_run 42 = .ok (.ireturn, 1) := by decide +kernel
theorem dX11_run_43 : decode cX11_run 43 = .ok (.iload_n 2, 1) := by decide +kernel
theorem dX11_run_44 : decode cX11_run 44 = .ok (.ifCond .eq 12, 3) := by decide +kernel
theorem dX11_run_47 : decode cX11_run 47 = .ok (.aload_n 0, 1) := by decide +kernel
theorem dX11_run_48 : decode cX11_run 48 = .ok (.getfield 31, 3) := by decide +kernel
theorem dX11_run_51 : decode cX11_run 51 = .ok (.iconst 0, 1) := by decide +kernel
theorem dX11_run_52 : decode cX11_run 52 = .ok (.iaload, 1) := by decide +kernel
theorem dX11_run_53 : decode cX11_run 53 = .ok (.goto 9, 3) := by decide +kernel
theorem dX11_run_56 : decode cX11_run 56 = .ok (.aload_n 0, 1) := by decide +kernel
theorem dX11_run_57 : decode cX11_run 57 = .ok (.getfield 13, 3) := by decide +kernel
theorem dX11_run_60 : decode cX11_run 60 = .ok (.iload_n 1, 1) := by decide +kernel
theorem dX11_run_61 : decode cX11_run 61 = .ok (.iaload, 1) := by decide +kernel
theorem dX11_run_62 : decode cX11_run 62 = .ok (.istore 4, 2) := by decide +kernel
theorem dX11_run_64 : decode cX11_run 64 = .ok (.iconst 0, 1) := by decide +kernel
theorem dX11_run_65 : decode cX11_run 65 = .ok (.istore 5, 2) := by decide +kernel
theorem dX11_run_67 : decode cX11_run 67 = .ok (.iload 5, 2) := by decide +kernel
theorem dX11_run_69 : decode cX11_run 69 = .ok (.bipush 40, 2) := by decide +kernel
theorem dX11_run_71 : decode cX11_run 71 = .ok (.if_icmp .ge 25, 3) := by decide +kernel
theorem dX11_run_74 : decode cX11_run 74 = .ok (.aload_n 0, 1) := by decide +kernel
theorem dX11_run_75 : decode cX11_run 75 = .ok (.getfield 110, 3) := by decide +kernel
theorem dX11_run_78 : decode cX11_run 78 = .ok (.iload 5, 2) := by decide +kernel
theorem dX11_run_80 : decode cX11_run 80 = .ok (.iload_n 2, 1) := by decide +kernel
theorem dX11_run_81 : decode cX11_run 81 = .ok (.ifCond .ne 7, 3) := by decide +kernel
theorem dX11_run_84 : decode cX11_run 84 = .ok (.iconst 1, 1) := by decide +kernel
theorem dX11_run_85 : decode cX11_run 85 = .ok (.goto 4, 3) := by decide +kernel
theorem dX11_run_88 : decode cX11_run 88 = .ok (.iconst 0, 1) := by decide +kernel
theorem dX11_run_89 : decode cX11_run 89 = .ok (.bastore, 1) := by decide +kernel
theorem dX11_run_90 : decode cX11_run 90 = .ok (.iinc 5 1, 3) := by decide +kernel
theorem dX11_run_93 : decode cX11_run 93 = .ok (.goto (-26), 3) := by decide +kernel
theorem dX11_run_96 : decode cX11_run 96 = .ok (.iconst 0, 1) := by decide +kernel
theorem dX11_run_97 : decode cX11_run 97 = .ok (.istore 5, 2) := by decide +kernel
theorem dX11_run_99 : decode cX11_run 99 = .ok (.iload_n 2, 1) := by decide +kernel
theorem dX11_run_100 : decode cX11_run 100 = .ok (.ifCond .eq 37, 3) := by decide +kernel
theorem dX11_run_103 : decode cX11_run 103 = .ok (.iload 5, 2) := by decide +kernel
theorem dX11_run_105 : decode cX11_run 105 = .ok (.aload_n 0, 1) := by decide +kernel
theorem dX11_run_106 : decode cX11_run 106 = .ok (.getfield 40, 3) := by decide +kernel
theorem dX11_run_109 : decode cX11_run 109 = .ok (.iconst 0, 1) := by decide +kernel
theorem dX11_run_110 : decode cX11_run 110 = .ok (.iaload, 1) := by decide +kernel
theorem dX11_run_111 : decode cX11_run 111 = .ok (.if_icmp .ge 26, 3) := by decide +kernel
theorem dX11_run_114 : decode cX11_run 114 = .ok (.aload_n 0, 1) := by decide +kernel
theorem dX11_run_115 : decode cX11_run 115 = .ok (.getfield 110, 3) := by decide +kernel
theorem dX11_run_118 : decode cX11_run 118 = .ok (.aload_n 0, 1) := by decide +kernel
theorem dX11_run_119 : decode cX11_run 119 = .ok (.getfield 43, 3) := by decide +kernel
theorem dX11_run_122 : decode cX11_run 122 = .ok (.iconst 3, 1) := by decide +kernel
theorem dX11_run_123 : decode cX11_run 123 = .ok (.iload 5, 2) := by decide +kernel
theorem dX11_run_125 : decode cX11_run 125 = .ok (.imul, 1) := by decide +kernel
theorem dX11_run_126 : decode cX11_run 126 = .ok (.iconst 1, 1) := by decide +kernel
theorem dX11_run_127 : decode cX11_run 127 = .ok (.iadd, 1) := by decide +kernel
theorem dX11_run_128 : decode cX11_run 128 = .ok (.iaload, 1) := by decide +kernel
theorem dX11_run_129 : decode cX11_run 129 = .ok (.iconst 1, 1) := by decide +kernel
theorem dX11_run_130 : decode cX11_run 130 = .ok (.bastore, 1) := by decide +kernel
theorem dX11_run_131 : decode cX11_run 131 = .ok (.iinc 5 1, 3) := by decide +kernel
theorem dX11_run_134 : decode cX11_run 134 = .ok (.goto (-35), 3) := by decide +kernel
theorem dX11_run_137 : decode cX11_run 137 = .ok (.iconst 0, 1) := by decide +kernel
theorem dX11_run_138 : decode cX11_run 138 = .ok (.istore 5, 2) := by decide +kernel
theorem dX11_run_140 : decode cX11_run 140 = .ok (.iload 5, 2) := by decide +kernel
theorem dX11_run_142 : decode cX11_run 142 = .ok (.iload 4, 2) := by decide +kernel
theorem dX11_run_144 : decode cX11_run 144 = .ok (.if_icmp .ge 75, 3) := by decide +kernel
theorem dX11_run_147 : decode cX11_run 147 = .ok (.aload_n 0, 1) := by decide +kernel
theorem dX11_run_148 : decode cX11_run 148 = .ok (.getfield 101, 3) := by decide +kernel
theorem dX11_run_151 : decode cX11_run 151 = .ok (.iload 5, 2) := by decide +kernel
theorem dX11_run_153 : decode cX11_run 153 = .ok (.iload_n 2, 1) := by decide +kernel
theorem dX11_run_154 : decode cX11_run 154 = .ok (.ifCond .eq 13, 3) := by decide +kernel
theorem dX11_run_157 : decode cX11_run 157 = .ok (.aload_n 0, 1) := by decide +kernel
theorem dX11_run_158 : decode cX11_run 158 = .ok (.getfield 34, 3) := by decide +kernel
theorem dX11_run_161 : decode cX11_run 161 = .ok (.iload 5, 2) := by decide +kernel
theorem dX11_run_163 : decode cX11_run 163 = .ok (.iaload, 1) := by decide +kernel
theorem dX11_run_164 : decode cX11_run 164 = .ok (.goto 15, 3) := by decide +kernel
theorem dX11_run_167 : decode cX11_run 167 = .ok (.aload_n 0, 1) := by decide +kernel
theorem dX11_run_168 : decode cX11_run 168 = .ok (.getfield 16, 3) := by decide +kernel
theorem dX11_run_171 : decode cX11_run 171 = .ok (.bipush 40, 2) := by decide +kernel
theorem dX11_run_173 : decode cX11_run 173 = .ok (.iload_n 1, 1) := by decide +kernel
theorem dX11_run_174 : decode cX11_run 174 = .ok (.imul, 1) := by decide +kernel
theorem dX11_run_175 : decode cX11_run 175 = .ok (.iload 5, 2) := by decide +kernel
theorem dX11_run_177 : decode cX11_run 177 = .ok (.iadd, 1) := by decide +kernel
theorem dX11_run_178 : decode cX11_run 178 = .ok (.iaload, 1) := by decide +kernel
theorem dX11_run_179 : decode cX11_run 179 = .ok (.iastore, 1) := by decide +kernel
theorem dX11_run_180 : decode cX11_run 180 = .ok (.aload_n 0, 1) := by decide +kernel
theorem dX11_run_181 : decode cX11_run 181 = .ok (.getfield 104, 3) := by decide +kernel
theorem dX11_run_184 : decode cX11_run 184 = .ok (.iload 5, 2) := by decide +kernel
theorem dX11_run_186 : decode cX11_run 186 = .ok (.iload_n 2, 1) := by decide +kernel
theorem dX11_run_187 : decode cX11_run 187 = .ok (.ifCond .eq 13, 3) := by decide +kernel
theorem dX11_run_190 : decode cX11_run 190 = .ok (.aload_n 0, 1) := by decide +kernel
theorem dX11_run_191 : decode cX11_run 191 = .ok (.getfield 37, 3) := by decide +kernel
theorem dX11_run_194 : decode cX11_run 194 = .ok (.iload 5, 2) := by decide +kernel
theorem dX11_run_196 : decode cX11_run 196 = .ok (.iaload, 1) := by decide +kernel
theorem dX11_run_197 : decode cX11_run 197 = .ok (.goto 15, 3) := by decide +kernel
theorem dX11_run_200 : decode cX11_run 200 = .ok (.aload_n 0, 1) := by decide +kernel
theorem dX11_run_201 : decode cX11_run 201 = .ok (.getfield 19, 3) := by decide +kernel
theorem dX11_run_204 : decode cX11_run 204 = .ok (.bipush 40, 2) := by decide +kernel
theorem dX11_run_206 : decode cX11_run 206 = .ok (.iload_n 1, 1) := by decide +kernel
theorem dX11_run_207 : decode cX11_run 207 = .ok (.imul, 1) := by decide +kernel
theorem dX11_run_208 : decode cX11_run 208 = .ok (.iload 5, 2) := by decide +kernel
theorem dX11_run_210 : decode cX11_run 210 = .ok (.iadd, 1) := by decide +kernel
theorem dX11_run_211 : decode cX11_run 211 = .ok (.iaload, 1) := by decide +kernel
theorem dX11_run_212 : decode cX11_run 212 = .ok (.iastore, 1) := by decide +kernel
theorem dX11_run_213 : decode cX11_run 213 = .ok (.iinc 5 1, 3) := by decide +kernel
theorem dX11_run_216 : decode cX11_run 216 = .ok (.goto (-76), 3) := by decide +kernel
theorem dX11_run_219 : decode cX11_run 219 = .ok (.aload_n 0, 1) := by decide +kernel
theorem dX11_run_220 : decode cX11_run 220 = .ok (.iload 4, 2) := by decide +kernel
theorem dX11_run_222 : decode cX11_run 222 = .ok (.iload_n 3, 1) := by decide +kernel
theorem dX11_run_223 : decode cX11_run 223 = .ok (.invokevirtual 204, 3) := by decide +kernel
theorem dX11_run_226 : decode cX11_run 226 = .ok (.istore 5, 2) := by decide +kernel
theorem dX11_run_228 : decode cX11_run 228 = .ok (.iconst 0, 1) := by decide +kernel
theorem dX11_run_229 : decode cX11_run 229 = .ok (.istore 6, 2) := by decide +kernel
theorem dX11_run_231 : decode cX11_run 231 = .ok (.iload_n 2, 1) := by decide +kernel
theorem dX11_run_232 : decode cX11_run 232 = .ok (.ifCond .ne 35, 3) := by decide +kernel
theorem dX11_run_235 : decode cX11_run 235 = .ok (.iload 6, 2) := by decide +kernel
theorem dX11_run_237 : decode cX11_run 237 = .ok (.iload 4, 2) := by decide +kernel
theorem dX11_run_239 : decode cX11_run 239 = .ok (.if_icmp .ge 28, 3) := by decide +kernel
theorem dX11_run_242 : decode cX11_run 242 = .ok (.aload_n 0, 1) := by decide +kernel
theorem dX11_run_243 : decode cX11_run 243 = .ok (.getfield 22, 3) := by decide +kernel
theorem dX11_run_246 : decode cX11_run 246 = .ok (.bipush 40, 2) := by decide +kernel
theorem dX11_run_248 : decode cX11_run 248 = .ok (.iload_n 1, 1) := by decide +kernel
theorem dX11_run_249 : decode cX11_run 249 = .ok (.imul, 1) := by decide +kernel
theorem dX11_run_250 : decode cX11_run 250 = .ok (.iload 6, 2) := by decide +kernel
theorem dX11_run_252 : decode cX11_run 252 = .ok (.iadd, 1) := by decide +kernel
theorem dX11_run_253 : decode cX11_run 253 = .ok (.aload_n 0, 1) := by decide +kernel
theorem dX11_run_254 : decode cX11_run 254 = .ok (.getfield 107, 3) := by decide +kernel
theorem dX11_run_257 : decode cX11_run 257 = .ok (.iload 6, 2) := by decide +kernel
theorem dX11_run_259 : decode cX11_run 259 = .ok (.iaload, 1) := by decide +kernel
theorem dX11_run_260 : decode cX11_run 260 = .ok (.iastore, 1) := by decide +kernel
theorem dX11_run_261 : decode cX11_run 261 = .ok (.iinc 6 1, 3) := by decide +kernel
theorem dX11_run_264 : decode cX11_run 264 = .ok (.goto (-33), 3) := by decide +kernel
theorem dX11_run_267 : decode cX11_run 267 = .ok (.iload 5, 2) := by decide +kernel
theorem dX11_run_269 : decode cX11_run 269 = .ok (.ireturn, 1) := by decide +kernel
theorem dX11_ran_0 : decode cX11_ran 0 = .ok (.aload_n 0, 1) := by decide +kernel
theorem dX11_ran_1 : decode cX11_ran 1 = .ok (.iconst 0, 1) := by decide +kernel
theorem dX11_ran_2 : decode cX11_ran 2 = .ok (.putfield 134, 3) := by decide +kernel
theorem dX11_ran_5 : decode cX11_ran 5 = .ok (.aload_n 0, 1) := by decide +kernel
theorem dX11_ran_6 : decode cX11_ran 6 = .ok (.getfield 52, 3) := by decide +kernel
theorem dX11_ran_9 : decode cX11_ran 9 = .ok (.iconst 0, 1) := by decide +kernel
theorem dX11_ran_10 : decode cX11_ran 10 = .ok (.iaload, 1) := by decide +kernel
theorem dX11_ran_11 : decode cX11_ran 11 = .ok (.iconst (-1), 1) := by decide +kernel
theorem dX11_ran_12 : decode cX11_ran 12 = .ok (.if_icmp .ne 5, 3) := by decide +kernel
theorem dX11_ran_15 : decode cX11_ran 15 = .ok (.iconst (-1), 1) := by decide +kernel
theorem dX11_ran_16 : decode cX11_ran 16 = .ok (.ireturn, 1) := by decide +kernel
theorem dX11_ran_17 : decode cX11_ran 17 = .ok (.iload_n 1, 1) := by decide +kernel
theorem dX11_ran_18 : decode cX11_ran 18 = .ok (.tableswitch 69 0 4 #[34, 41, 48, 55, 62], 34) := by decide +kernel
theorem dX11_ran_52 : decode cX11_ran 52 = .ok (.aload_n 0, 1) := by decide +kernel
theorem dX11_ran_53 : decode cX11_ran 53 = .ok (.getfield 55, 3) := by decide +kernel
theorem dX11_ran_56 : decode cX11_ran 56 = .ok (.iconst 0, 1) := by decide +kernel
theorem dX11_ran_57 : decode cX11_ran 57 = .ok (.iaload, 1) := by decide +kernel
theorem dX11_ran_58 : decode cX11_ran 58 = .ok (.ireturn, 1) := by decide +kernel
theorem dX11_ran_59 : decode cX11_ran 59 = .ok (.aload_n 0, 1) := by decide +kernel
theorem dX11_ran_60 : decode cX11_ran 60 = .ok (.getfield 58, 3) := by decide +kernel
theorem dX11_ran_63 : decode cX11_ran 63 = .ok (.iconst 0, 1) := by decide +kernel
theorem dX11_ran_64 : decode cX11_ran 64 = .ok (.iaload, 1) := by decide +kernel
theorem dX11_ran_65 : decode cX11_ran 65 = .ok (.ireturn, 1) := by decide +kernel
theorem dX11_ran_66 : decode cX11_ran 66 = .ok (.aload_n 0, 1) := by decide +kernel
theorem dX11_ran_67 : decode cX11_ran 67 = .ok (.getfield 64, 3) := by decide +kernel
theorem dX11_ran_70 : decode cX11_ran 70 = .ok (.iconst 0, 1) := by decide +kernel
theorem dX11_ran_71 : decode cX11_ran 71 = .ok (.iaload, 1) := by decide +kernel
theorem dX11_ran_72 : decode cX11_ran 72 = .ok (.ireturn, 1) := by decide +kernel
theorem dX11_ran_73 : decode cX11_ran 73 = .ok (.aload_n 0, 1) := by decide +kernel
theorem dX11_ran_74 : decode cX11_ran 74 = .ok (.getfield 70, 3) := by decide +kernel
theorem dX11_ran_77 : decode cX11_ran 77 = .ok (.iconst 0, 1) := by decide +kernel
theorem dX11_ran_78 : decode cX11_ran 78 = .ok (.iaload, 1) := by decide +kernel
theorem dX11_ran_79 : decode cX11_ran 79 = .ok (.ireturn, 1) := by decide +kernel
theorem dX11_ran_80 : decode cX11_ran 80 = .ok (.aload_n 0, 1) := by decide +kernel
theorem dX11_ran_81 : decode cX11_ran 81 = .ok (.getfield 61, 3) := by decide +kernel
theorem dX11_ran_84 : decode cX11_ran 84 = .ok (.iconst 0, 1) := by decide +kernel
theorem dX11_ran_85 : decode cX11_ran 85 = .ok (.iaload, 1) := by decide +kernel
theorem dX11_ran_86 : decode cX11_ran 86 = .ok (.ireturn, 1) := by decide +kernel
theorem dX11_ran_87 : decode cX11_ran 87 = .ok (.iconst (-1), 1) := by decide +kernel
theorem dX11_ran_88 : decode cX11_ran 88 = .ok (.ireturn, 1) := by decide +kernel
theorem dX11_had_0 : decode cX11_had 0 = .ok (.aload_n 0, 1) := by decide +kernel
theorem dX11_had_1 : decode cX11_had 1 = .ok (.iconst 0, 1) := by decide +kernel
theorem dX11_had_2 : decode cX11_had 2 = .ok (.putfield 134, 3) := by decide +kernel
theorem dX11_had_5 : decode cX11_had 5 = .ok (.aload_n 0, 1) := by decide +kernel
theorem dX11_had_6 : decode cX11_had 6 = .ok (.getfield 52, 3) := by decide +kernel
theorem dX11_had_9 : decode cX11_had 9 = .ok (.iconst 0, 1) := by decide +kernel
theorem dX11_had_10 : decode cX11_had 10 = .ok (.iaload, 1) := by decide +kernel
theorem dX11_had_11 : decode cX11_had 11 = .ok (.iconst (-1), 1) := by decide +kernel
theorem dX11_had_12 : decode cX11_had 12 = .ok (.if_icmp .ne 5, 3) := by decide +kernel
theorem dX11_had_15 : decode cX11_had 15 = .ok (.iconst 0, 1) := by decide +kernel
theorem dX11_had_16 : decode cX11_had 16 = .ok (.ireturn, 1) := by decide +kernel
theorem dX11_had_17 : decode cX11_had 17 = .ok (.iload_n 1, 1) := by decide +kernel
theorem dX11_had_18 : decode cX11_had 18 = .ok (.tableswitch 101 0 2 #[26, 53, 80], 26) := by decide +kernel
theorem dX11_had_44 : decode cX11_had 44 = .ok (.iload_n 2, 1) := by decide +kernel
theorem dX11_had_45 : decode cX11_had 45 = .ok (.iconst 0, 1) := by decide +kernel
theorem dX11_had_46 : decode cX11_had 46 = .ok (.aload_n 0, 1) := by decide +kernel
theorem dX11_had_47 : decode cX11_had 47 = .ok (.getfield 64, 3) := by decide +kernel
theorem dX11_had_50 : decode cX11_had 50 = .ok (.iconst 0, 1) := by decide +kernel
theorem dX11_had_51 : decode cX11_had 51 = .ok (.iaload, 1) := by decide +kernel
theorem dX11_had_52 : decode cX11_had 52 = .ok (.iconst 1, 1) := by decide +kernel
theorem dX11_had_53 : decode cX11_had 53 = .ok (.isub, 1) := by decide +kernel
theorem dX11_had_54 : decode cX11_had 54 = .ok (.invokestatic 142, 3) := by decide +kernel
theorem dX11_had_57 : decode cX11_had 57 = .ok (.ifCond .eq 12, 3) := by decide +kernel
theorem dX11_had_60 : decode cX11_had 60 = .ok (.aload_n 0, 1) := by decide +kernel
theorem dX11_had_61 : decode cX11_had 61 = .ok (.getfield 67, 3) := by decide +kernel
theorem dX11_had_64 : decode cX11_had 64 = .ok (.iload_n 2, 1) := by decide +kernel
theorem dX11_had_65 : decode cX11_had 65 = .ok (.iaload, 1) := by decide +kernel
theorem dX11_had_66 : decode cX11_had 66 = .ok (.goto 4, 3) := by decide +kernel
theorem dX11_had_69 : decode cX11_had 69 = .ok (.iconst 0, 1) := by decide +kernel
theorem dX11_had_70 : decode cX11_had 70 = .ok (.ireturn, 1) := by decide +kernel
theorem dX11_had_71 : decode cX11_had 71 = .ok (.iload_n 2, 1) := by decide +kernel
theorem dX11_had_72 : decode cX11_had 72 = .ok (.iconst 0, 1) := by decide +kernel
theorem dX11_had_73 : decode cX11_had 73 = .ok (.aload_n 0, 1) := by decide +kernel
theorem dX11_had_74 : decode cX11_had 74 = .ok (.getfield 70, 3) := by decide +kernel
theorem dX11_had_77 : decode cX11_had 77 = .ok (.iconst 0, 1) := by decide +kernel
theorem dX11_had_78 : decode cX11_had 78 = .ok (.iaload, 1) := by decide +kernel
theorem dX11_had_79 : decode cX11_had 79 = .ok (.iconst 1, 1) := by decide +kernel
theorem dX11_had_80 : decode cX11_had 80 = .ok (.isub, 1) := by decide +kernel
theorem dX11_had_81 : decode cX11_had 81 = .ok (.invokestatic 142, 3) := by decide +kernel
theorem dX11_had_84 : decode cX11_had 84 = .ok (.ifCond .eq 12, 3) := by decide +kernel
theorem dX11_had_87 : decode cX11_had 87 = .ok (.aload_n 0, 1) := by decide +kernel
theorem dX11_had_88 : decode cX11_had 88 = .ok (.getfield 73, 3) := by decide +kernel
theorem dX11_had_91 : decode cX11_had 91 = .ok (.iload_n 2, 1) := by decide +kernel
theorem dX11_had_92 : decode cX11_had 92 = .ok (.iaload, 1) := by decide +kernel
theorem dX11_had_93 : decode cX11_had 93 = .ok (.goto 4, 3) := by decide +kernel
theorem dX11_had_96 : decode cX11_had 96 = .ok (.iconst 0, 1) := by decide +kernel
theorem dX11_had_97 : decode cX11_had 97 = .ok (.ireturn, 1) := by decide +kernel
theorem dX11_had_98 : decode cX11_had 98 = .ok (.iload_n 2, 1) := by decide +kernel
theorem dX11_had_99 : decode cX11_had 99 = .ok (.iconst 0, 1) := by decide +kernel
theorem dX11_had_100 : decode cX11_had 100 = .ok (.bipush 7, 2) := by decide +kernel
theorem dX11_had_102 : decode cX11_had 102 = .ok (.invokestatic 142, 3) := by decide +kernel
theorem dX11_had_105 : decode cX11_had 105 = .ok (.ifCond .eq 12, 3) := by decide +kernel
theorem dX11_had_108 : decode cX11_had 108 = .ok (.aload_n 0, 1) := by decide +kernel
theorem dX11_had_109 : decode cX11_had 109 = .ok (.getfield 76, 3) := by decide +kernel
theorem dX11_had_112 : decode cX11_had 112 = .ok (.iload_n 2, 1) := by decide +kernel
theorem dX11_had_113 : decode cX11_had 113 = .ok (.iaload, 1) := by decide +kernel
theorem dX11_had_114 : decode cX11_had 114 = .ok (.goto 4, 3) := by decide +kernel
theorem dX11_had_117 : decode cX11_had 117 = .ok (.iconst 0, 1) := by decide +kernel
theorem dX11_had_118 : decode cX11_had 118 = .ok (.ireturn, 1) := by decide +kernel
theorem dX11_had_119 : decode cX11_had 119 = .ok (.iconst 0, 1) := by decide +kernel
theorem dX11_had_120 : decode cX11_had 120 = .ok (.ireturn, 1) := by decide +kernel
theorem dX11_cost_0 : decode cX11_cost 0 = .ok (.aload_n 0, 1) := by decide +kernel
theorem dX11_cost_1 : decode cX11_cost 1 = .ok (.iconst 0, 1) := by decide +kernel
theorem dX11_cost_2 : decode cX11_cost 2 = .ok (.putfield 134, 3) := by decide +kernel
theorem dX11_cost_5 : decode cX11_cost 5 = .ok (.aload_n 0, 1) := by decide +kernel
theorem dX11_cost_6 : decode cX11_cost 6 = .ok (.invokevirtual 180, 3) := by decide +kernel
theorem dX11_cost_9 : decode cX11_cost 9 = .ok (.aload_n 0, 1) := by decide +kernel
theorem dX11_cost_10 : decode cX11_cost 10 = .ok (.iload_n 1, 1) := by decide +kernel
theorem dX11_cost_11 : decode cX11_cost 11 = .ok (.ifCond .eq 7, 3) := by decide +kernel
theorem dX11_cost_14 : decode cX11_cost 14 = .ok (.iconst 1, 1) := by decide +kernel
theorem dX11_cost_15 : decode cX11_cost 15 = .ok (.goto 4, 3) := by decide +kernel
theorem dX11_cost_18 : decode cX11_cost 18 = .ok (.iconst 0, 1) := by decide +kernel
theorem dX11_cost_19 : decode cX11_cost 19 = .ok (.invokevirtual 208, 3) := by decide +kernel
theorem dX11_cost_22 : decode cX11_cost 22 = .ok (.ireturn, 1) := by decide +kernel
theorem dX11_putFound_0 : decode cX11_putFound 0 = .ok (.aload_n 0, 1) := by decide +kernel
theorem dX11_putFound_1 : decode cX11_putFound 1 = .ok (.getfield 211, 3) := by decide +kernel
theorem dX11_putFound_4 : decode cX11_putFound 4 = .ok (.istore_n 2, 1) := by decide +kernel
theorem dX11_putFound_5 : decode cX11_putFound 5 = .ok (.iload_n 2, 1) := by decide +kernel
theorem dX11_putFound_6 : decode cX11_putFound 6 = .ok (.ifCond .le 21, 3) := by decide +kernel
theorem dX11_putFound_9 : decode cX11_putFound 9 = .ok (.aload_n 0, 1) := by decide +kernel
theorem dX11_putFound_10 : decode cX11_putFound 10 = .ok (.getfield 113, 3) := by decide +kernel
theorem dX11_putFound_13 : decode cX11_putFound 13 = .ok (.iload_n 2, 1) := by decide +kernel
theorem dX11_putFound_14 : decode cX11_putFound 14 = .ok (.iconst 1, 1) := by decide +kernel
theorem dX11_putFound_15 : decode cX11_putFound 15 = .ok (.isub, 1) := by decide +kernel
theorem dX11_putFound_16 : decode cX11_putFound 16 = .ok (.iaload, 1) := by decide +kernel
theorem dX11_putFound_17 : decode cX11_putFound 17 = .ok (.iload_n 1, 1) := by decide +kernel
theorem dX11_putFound_18 : decode cX11_putFound 18 = .ok (.if_icmp .le 9, 3) := by decide +kernel
theorem dX11_putFound_21 : decode cX11_putFound 21 = .ok (.iinc 2 (-1), 3) := by decide +kernel
theorem dX11_putFound_24 : decode cX11_putFound 24 = .ok (.goto (-19), 3) := by decide +kernel
theorem dX11_putFound_27 : decode cX11_putFound 27 = .ok (.iload_n 2, 1) := by decide +kernel
theorem dX11_putFound_28 : decode cX11_putFound 28 = .ok (.ifCond .le 16, 3) := by decide +kernel
theorem dX11_putFound_31 : decode cX11_putFound 31 = .ok (.aload_n 0, 1) := by decide +kernel
theorem dX11_putFound_32 : decode cX11_putFound 32 = .ok (.getfield 113, 3) := by decide +kernel
theorem dX11_putFound_35 : decode cX11_putFound 35 = .ok (.iload_n 2, 1) := by decide +kernel
theorem dX11_putFound_36 : decode cX11_putFound 36 = .ok (.iconst 1, 1) := by decide +kernel
theorem dX11_putFound_37 : decode cX11_putFound 37 = .ok (.isub, 1) := by decide +kernel
theorem dX11_putFound_38 : decode cX11_putFound 38 = .ok (.iaload, 1) := by decide +kernel
theorem dX11_putFound_39 : decode cX11_putFound 39 = .ok (.iload_n 1, 1) := by decide +kernel
theorem dX11_putFound_40 : decode cX11_putFound 40 = .ok (.if_icmp .ne 4, 3) := by decide +kernel
theorem dX11_putFound_43 : decode cX11_putFound 43 = .ok (.return_, 1) := by decide +kernel
theorem dX11_putFound_44 : decode cX11_putFound 44 = .ok (.aload_n 0, 1) := by decide +kernel
theorem dX11_putFound_45 : decode cX11_putFound 45 = .ok (.getfield 211, 3) := by decide +kernel
theorem dX11_putFound_48 : decode cX11_putFound 48 = .ok (.istore_n 3, 1) := by decide +kernel
theorem dX11_putFound_49 : decode cX11_putFound 49 = .ok (.iload_n 3, 1) := by decide +kernel
theorem dX11_putFound_50 : decode cX11_putFound 50 = .ok (.iload_n 2, 1) := by decide +kernel
theorem dX11_putFound_51 : decode cX11_putFound 51 = .ok (.if_icmp .le 23, 3) := by decide +kernel
theorem dX11_putFound_54 : decode cX11_putFound 54 = .ok (.aload_n 0, 1) := by decide +kernel
theorem dX11_putFound_55 : decode cX11_putFound 55 = .ok (.getfield 113, 3) := by decide +kernel
theorem dX11_putFound_58 : decode cX11_putFound 58 = .ok (.iload_n 3, 1) := by decide +kernel
theorem dX11_putFound_59 : decode cX11_putFound 59 = .ok (.aload_n 0, 1) := by decide +kernel
theorem dX11_putFound_60 : decode cX11_putFound 60 = .ok (.getfield 113, 3) := by decide +kernel
theorem dX11_putFound_63 : decode cX11_putFound 63 = .ok (.iload_n 3, 1) := by decide +kernel
theorem dX11_putFound_64 : decode cX11_putFound 64 = .ok (.iconst 1, 1) := by decide +kernel
theorem dX11_putFound_65 : decode cX11_putFound 65 = .ok (.isub, 1) := by decide +kernel
theorem dX11_putFound_66 : decode cX11_putFound 66 = .ok (.iaload, 1) := by decide +kernel
theorem dX11_putFound_67 : decode cX11_putFound 67 = .ok (.iastore, 1) := by decide +kernel
theorem dX11_putFound_68 : decode cX11_putFound 68 = .ok (.iinc 3 (-1), 3) := by decide +kernel
theorem dX11_putFound_71 : decode cX11_putFound 71 = .ok (.goto (-22), 3) := by decide +kernel
theorem dX11_putFound_74 : decode cX11_putFound 74 = .ok (.aload_n 0, 1) := by decide +kernel
theorem dX11_putFound_75 : decode cX11_putFound 75 = .ok (.getfield 113, 3) := by decide +kernel
theorem dX11_putFound_78 : decode cX11_putFound 78 = .ok (.iload_n 2, 1) := by decide +kernel
theorem dX11_putFound_79 : decode cX11_putFound 79 = .ok (.iload_n 1, 1) := by decide +kernel
theorem dX11_putFound_80 : decode cX11_putFound 80 = .ok (.iastore, 1) := by decide +kernel
theorem dX11_putFound_81 : decode cX11_putFound 81 = .ok (.aload_n 0, 1) := by decide +kernel
theorem dX11_putFound_82 : decode cX11_putFound 82 = .ok (.dup, 1) := by decide +kernel
theorem dX11_putFound_83 : decode cX11_putFound 83 = .ok (.getfield 211, 3) := by decide +kernel
theorem dX11_putFound_86 : decode cX11_putFound 86 = .ok (.iconst 1, 1) := by decide +kernel
theorem dX11_putFound_87 : decode cX11_putFound 87 = .ok (.iadd, 1) := by decide +kernel
theorem dX11_putFound_88 : decode cX11_putFound 88 = .ok (.putfield 211, 3) := by decide +kernel
theorem dX11_putFound_91 : decode cX11_putFound 91 = .ok (.return_, 1) := by decide +kernel
theorem dX11_findRows_0 : decode cX11_findRows 0 = .ok (.aload_n 0, 1) := by decide +kernel
theorem dX11_findRows_1 : decode cX11_findRows 1 = .ok (.iconst 0, 1) := by decide +kernel
theorem dX11_findRows_2 : decode cX11_findRows 2 = .ok (.putfield 211, 3) := by decide +kernel
theorem dX11_findRows_5 : decode cX11_findRows 5 = .ok (.iconst 0, 1) := by decide +kernel
theorem dX11_findRows_6 : decode cX11_findRows 6 = .ok (.istore_n 1, 1) := by decide +kernel
theorem dX11_findRows_7 : decode cX11_findRows 7 = .ok (.iload_n 1, 1) := by decide +kernel
theorem dX11_findRows_8 : decode cX11_findRows 8 = .ok (.aload_n 0, 1) := by decide +kernel
theorem dX11_findRows_9 : decode cX11_findRows 9 = .ok (.getfield 7, 3) := by decide +kernel
theorem dX11_findRows_12 : decode cX11_findRows 12 = .ok (.iconst 0, 1) := by decide +kernel
theorem dX11_findRows_13 : decode cX11_findRows 13 = .ok (.iaload, 1) := by decide +kernel
theorem dX11_findRows_14 : decode cX11_findRows 14 = .ok (.if_icmp .ge 192, 3) := by decide +kernel
theorem dX11_findRows_17 : decode cX11_findRows 17 = .ok (.aload_n 0, 1) := by decide +kernel
theorem dX11_findRows_18 : decode cX11_findRows 18 = .ok (.iload_n 1, 1) := by decide +kernel
theorem dX11_findRows_19 : decode cX11_findRows 19 = .ok (.invokevirtual 167, 3) := by decide +kernel
theorem dX11_findRows_22 : decode cX11_findRows 22 = .ok (.iconst 0, 1) := by decide +kernel
theorem dX11_findRows_23 : decode cX11_findRows 23 = .ok (.istore_n 2, 1) := by decide +kernel
theorem dX11_findRows_24 : decode cX11_findRows 24 = .ok (.iload_n 2, 1) := by decide +kernel
theorem dX11_findRows_25 : decode cX11_findRows 25 = .ok (.aload_n 0, 1) := by decide +kernel
theorem dX11_findRows_26 : decode cX11_findRows 26 = .ok (.getfield 13, 3) := by decide +kernel
theorem dX11_findRows_29 : decode cX11_findRows 29 = .ok (.iload_n 1, 1) := by decide +kernel
theorem dX11_findRows_30 : decode cX11_findRows 30 = .ok (.iaload, 1) := by decide +kernel
theorem dX11_findRows_31 : decode cX11_findRows 31 = .ok (.if_icmp .ge 169, 3) := by decide +kernel
theorem dX11_findRows_34 : decode cX11_findRows 34 = .ok (.iconst 0, 1) := by decide +kernel
theorem dX11_findRows_35 : decode cX11_findRows 35 = .ok (.istore_n 3, 1) := by decide +kernel
theorem dX11_findRows_36 : decode cX11_findRows 36 = .ok (.iconst 1, 1) := by decide +kernel
theorem dX11_findRows_37 : decode cX11_findRows 37 = .ok (.istore 4, 2) := by decide +kernel
theorem dX11_findRows_39 : decode cX11_findRows 39 = .ok (.iconst 0, 1) := by decide +kernel
theorem dX11_findRows_40 : decode cX11_findRows 40 = .ok (.istore 5, 2) := by decide +kernel
theorem dX11_findRows_42 : decode cX11_findRows 42 = .ok (.iload 5, 2) := by decide +kernel
theorem dX11_findRows_44 : decode cX11_findRows 44 = .ok (.iconst 4, 1) := by decide +kernel
theorem dX11_findRows_45 : decode cX11_findRows 45 = .ok (.if_icmp .ge 149, 3) := by decide +kernel
theorem dX11_findRows_48 : decode cX11_findRows 48 = .ok (.iload 4, 2) := by decide +kernel
theorem dX11_findRows_50 : decode cX11_findRows 50 = .ok (.ifCond .eq 144, 3) := by decide +kernel
theorem dX11_findRows_53 : decode cX11_findRows 53 = .ok (.iload_n 2, 1) := by decide +kernel
theorem dX11_findRows_54 : decode cX11_findRows 54 = .ok (.iload 5, 2) := by decide +kernel
theorem dX11_findRows_56 : decode cX11_findRows 56 = .ok (.iadd, 1) := by decide +kernel
theorem dX11_findRows_57 : decode cX11_findRows 57 = .ok (.aload_n 0, 1) := by decide +kernel
theorem dX11_findRows_58 : decode cX11_findRows 58 = .ok (.getfield 13, 3) := by decide +kernel
theorem dX11_findRows_61 : decode cX11_findRows 61 = .ok (.iload_n 1, 1) := by decide +kernel
theorem dX11_findRows_62 : decode cX11_findRows 62 = .ok (.iaload, 1) := by decide +kernel
theorem dX11_findRows_63 : decode cX11_findRows 63 = .ok (.if_icmp .ge 131, 3) := by decide +kernel
theorem dX11_findRows_66 : decode cX11_findRows 66 = .ok (.aload_n 0, 1) := by decide +kernel
theorem dX11_findRows_67 : decode cX11_findRows 67 = .ok (.getfield 16, 3) := by decide +kernel
theorem dX11_findRows_70 : decode cX11_findRows 70 = .ok (.bipush 40, 2) := by decide +kernel
theorem dX11_findRows_72 : decode cX11_findRows 72 = .ok (.iload_n 1, 1) := by decide +kernel
theorem dX11_findRows_73 : decode cX11_findRows 73 = .ok (.imul, 1) := by decide +kernel
theorem dX11_findRows_74 : decode cX11_findRows 74 = .ok (.iload_n 2, 1) := by decide +kernel
theorem dX11_findRows_75 : decode cX11_findRows 75 = .ok (.iadd, 1) := by decide +kernel
theorem dX11_findRows_76 : decode cX11_findRows 76 = .ok (.iload 5, 2) := by decide +kernel
theorem dX11_findRows_78 : decode cX11_findRows 78 = .ok (.iadd, 1) := by decide +kernel
theorem dX11_findRows_79 : decode cX11_findRows 79 = .ok (.iaload, 1) := by decide +kernel
theorem dX11_findRows_80 : decode cX11_findRows 80 = .ok (.istore 6, 2) := by decide +kernel
theorem dX11_findRows_82 : decode cX11_findRows 82 = .ok (.iload 5, 2) := by decide +kernel
theorem dX11_findRows_84 : decode cX11_findRows 84 = .ok (.ifCond .eq 15, 3) := by decide +kernel
theorem dX11_findRows_87 : decode cX11_findRows 87 = .ok (.aload_n 0, 1) := by decide +kernel
theorem dX11_findRows_88 : decode cX11_findRows 88 = .ok (.getfield 94, 3) := by decide +kernel
theorem dX11_findRows_91 : decode cX11_findRows 91 = .ok (.iload_n 2, 1) := by decide +kernel
theorem dX11_findRows_92 : decode cX11_findRows 92 = .ok (.iload 5, 2) := by decide +kernel
theorem dX11_findRows_94 : decode cX11_findRows 94 = .ok (.iadd, 1) := by decide +kernel
theorem dX11_findRows_95 : decode cX11_findRows 95 = .ok (.baload, 1) := by decide +kernel
theorem dX11_findRows_96 : decode cX11_findRows 96 = .ok (.ifCond .ne 7, 3) := by decide +kernel
theorem dX11_findRows_99 : decode cX11_findRows 99 = .ok (.iconst 1, 1) := by decide +kernel
theorem dX11_findRows_100 : decode cX11_findRows 100 = .ok (.goto 4, 3) := by decide +kernel
theorem dX11_findRows_103 : decode cX11_findRows 103 = .ok (.iconst 0, 1) := by decide +kernel
theorem dX11_findRows_104 : decode cX11_findRows 104 = .ok (.istore 4, 2) := by decide +kernel
theorem dX11_findRows_106 : decode cX11_findRows 106 = .ok (.iload 5, 2) := by decide +kernel
theorem dX11_findRows_108 : decode cX11_findRows 108 = .ok (.ifCond .ne 9, 3) := by decide +kernel
theorem dX11_findRows_111 : decode cX11_findRows 111 = .ok (.sipush 4913, 3) := by decide +kernel
theorem dX11_findRows_114 : decode cX11_findRows 114 = .ok (.goto 27, 3) := by decide +kernel
theorem dX11_findRows_117 : decode cX11_findRows 117 = .ok (.iload 5, 2) := by decide +kernel
theorem dX11_findRows_119 : decode cX11_findRows 119 = .ok (.iconst 1, 1) := by decide +kernel
theorem dX11_findRows_120 : decode cX11_findRows 120 = .ok (.if_icmp .ne 9, 3) := by decide +kernel
theorem dX11_findRows_123 : decode cX11_findRows 123 = .ok (.sipush 289, 3) := by decide +kernel
theorem dX11_findRows_126 : decode cX11_findRows 126 = .ok (.goto 15, 3) := by decide +kernel
theorem dX11_findRows_129 : decode cX11_findRows 129 = .ok (.iload 5, 2) := by decide +kernel
theorem dX11_findRows_131 : decode cX11_findRows 131 = .ok (.iconst 2, 1) := by decide +kernel
theorem dX11_findRows_132 : decode cX11_findRows 132 = .ok (.if_icmp .ne 8, 3) := by decide +kernel
theorem dX11_findRows_135 : decode cX11_findRows 135 = .ok (.bipush 17, 2) := by decide +kernel
theorem dX11_findRows_137 : decode cX11_findRows 137 = .ok (.goto 4, 3) := by decide +kernel
theorem dX11_findRows_140 : decode cX11_findRows 140 = .ok (.iconst 1, 1) := by decide +kernel
theorem dX11_findRows_141 : decode cX11_findRows 141 = .ok (.istore 7, 2) := by decide +kernel
theorem dX11_findRows_143 : decode cX11_findRows 143 = .ok (.iload_n 3, 1) := by decide +kernel
theorem dX11_findRows_144 : decode cX11_findRows 144 = .ok (.iload 7, 2) := by decide +kernel
theorem dX11_findRows_146 : decode cX11_findRows 146 = .ok (.iload 6, 2) := by decide +kernel
theorem dX11_findRows_148 : decode cX11_findRows 148 = .ok (.iconst 1, 1) := by decide +kernel
theorem dX11_findRows_149 : decode cX11_findRows 149 = .ok (.iadd, 1) := by decide +kernel
theorem dX11_findRows_150 : decode cX11_findRows 150 = .ok (.imul, 1) := by decide +kernel
theorem dX11_findRows_151 : decode cX11_findRows 151 = .ok (.iadd, 1) := by decide +kernel
theorem dX11_findRows_152 : decode cX11_findRows 152 = .ok (.istore_n 3, 1) := by decide +kernel
theorem dX11_findRows_153 : decode cX11_findRows 153 = .ok (.iload 4, 2) := by decide +kernel
theorem dX11_findRows_155 : decode cX11_findRows 155 = .ok (.ifCond .eq 13, 3) := by decide +kernel
theorem dX11_findRows_158 : decode cX11_findRows 158 = .ok (.iload 5, 2) := by decide +kernel
theorem dX11_findRows_160 : decode cX11_findRows 160 = .ok (.ifCond .le 8, 3) := by decide +kernel
theorem dX11_findRows_163 : decode cX11_findRows 163 = .ok (.aload_n 0, 1) := by decide +kernel
theorem dX11_findRows_164 : decode cX11_findRows 164 = .ok (.iload_n 3, 1) := by decide +kernel
theorem dX11_findRows_165 : decode cX11_findRows 165 = .ok (.invokevirtual 214, 3) := by decide +kernel
theorem dX11_findRows_168 : decode cX11_findRows 168 = .ok (.iload 4, 2) := by decide +kernel
theorem dX11_findRows_170 : decode cX11_findRows 170 = .ok (.ifCond .eq 15, 3) := by decide +kernel
theorem dX11_findRows_173 : decode cX11_findRows 173 = .ok (.iload 6, 2) := by decide +kernel
theorem dX11_findRows_175 : decode cX11_findRows 175 = .ok (.invokestatic 164, 3) := by decide +kernel
theorem dX11_findRows_178 : decode cX11_findRows 178 = .ok (.ifCond .ne 7, 3) := by decide +kernel
theorem dX11_findRows_181 : decode cX11_findRows 181 = .ok (.iconst 1, 1) := by decide +kernel
theorem dX11_findRows_182 : decode cX11_findRows 182 = .ok (.goto 4, 3) := by decide +kernel
theorem dX11_findRows_185 : decode cX11_findRows 185 = .ok (.iconst 0, 1) := by decide +kernel
theorem dX11_findRows_186 : decode cX11_findRows 186 = .ok (.istore 4, 2) := by decide +kernel
theorem dX11_findRows_188 : decode cX11_findRows 188 = .ok (.iinc 5 1, 3) := by decide +kernel
theorem dX11_findRows_191 : decode cX11_findRows 191 = .ok (.goto (-149), 3) := by decide +kernel
theorem dX11_findRows_194 : decode cX11_findRows 194 = .ok (.iinc 2 1, 3) := by decide +kernel
theorem dX11_findRows_197 : decode cX11_findRows 197 = .ok (.goto (-173), 3) := by decide +kernel
theorem dX11_findRows_200 : decode cX11_findRows 200 = .ok (.iinc 1 1, 3) := by decide +kernel
theorem dX11_findRows_203 : decode cX11_findRows 203 = .ok (.goto (-196), 3) := by decide +kernel
theorem dX11_findRows_206 : decode cX11_findRows 206 = .ok (.return_, 1) := by decide +kernel
theorem dX11_tryRow_0 : decode cX11_tryRow 0 = .ok (.iconst 0, 1) := by decide +kernel
theorem dX11_tryRow_1 : decode cX11_tryRow 1 = .ok (.istore_n 3, 1) := by decide +kernel
theorem dX11_tryRow_2 : decode cX11_tryRow 2 = .ok (.iload_n 2, 1) := by decide +kernel
theorem dX11_tryRow_3 : decode cX11_tryRow 3 = .ok (.istore 4, 2) := by decide +kernel
theorem dX11_tryRow_5 : decode cX11_tryRow 5 = .ok (.sipush 4913, 3) := by decide +kernel
theorem dX11_tryRow_8 : decode cX11_tryRow 8 = .ok (.istore 5, 2) := by decide +kernel
theorem dX11_tryRow_10 : decode cX11_tryRow 10 = .ok (.iload 5, 2) := by decide +kernel
theorem dX11_tryRow_12 : decode cX11_tryRow 12 = .ok (.ifCond .le 49, 3) := by decide +kernel
theorem dX11_tryRow_15 : decode cX11_tryRow 15 = .ok (.iload 4, 2) := by decide +kernel
theorem dX11_tryRow_17 : decode cX11_tryRow 17 = .ok (.iload 5, 2) := by decide +kernel
theorem dX11_tryRow_19 : decode cX11_tryRow 19 = .ok (.idiv, 1) := by decide +kernel
theorem dX11_tryRow_20 : decode cX11_tryRow 20 = .ok (.istore 6, 2) := by decide +kernel
theorem dX11_tryRow_22 : decode cX11_tryRow 22 = .ok (.iload 4, 2) := by decide +kernel
theorem dX11_tryRow_24 : decode cX11_tryRow 24 = .ok (.iload 5, 2) := by decide +kernel
theorem dX11_tryRow_26 : decode cX11_tryRow 26 = .ok (.irem, 1) := by decide +kernel
theorem dX11_tryRow_27 : decode cX11_tryRow 27 = .ok (.istore 4, 2) := by decide +kernel
theorem dX11_tryRow_29 : decode cX11_tryRow 29 = .ok (.iload 6, 2) := by decide +kernel
theorem dX11_tryRow_31 : decode cX11_tryRow 31 = .ok (.ifCond .le 20, 3) := by decide +kernel
theorem dX11_tryRow_34 : decode cX11_tryRow 34 = .ok (.iinc 3 1, 3) := by decide +kernel
theorem dX11_tryRow_37 : decode cX11_tryRow 37 = .ok (.aload_n 0, 1) := by decide +kernel
theorem dX11_tryRow_38 : decode cX11_tryRow 38 = .ok (.getfield 91, 3) := by decide +kernel
theorem dX11_tryRow_41 : decode cX11_tryRow 41 = .ok (.iconst 5, 1) := by decide +kernel
theorem dX11_tryRow_42 : decode cX11_tryRow 42 = .ok (.iload_n 1, 1) := by decide +kernel
theorem dX11_tryRow_43 : decode cX11_tryRow 43 = .ok (.imul, 1) := by decide +kernel
theorem dX11_tryRow_44 : decode cX11_tryRow 44 = .ok (.iload_n 3, 1) := by decide +kernel
theorem dX11_tryRow_45 : decode cX11_tryRow 45 = .ok (.iadd, 1) := by decide +kernel
theorem dX11_tryRow_46 : decode cX11_tryRow 46 = .ok (.iload 6, 2) := by decide +kernel
theorem dX11_tryRow_48 : decode cX11_tryRow 48 = .ok (.iconst 1, 1) := by decide +kernel
theorem dX11_tryRow_49 : decode cX11_tryRow 49 = .ok (.isub, 1) := by decide +kernel
theorem dX11_tryRow_50 : decode cX11_tryRow 50 = .ok (.iastore, 1) := by decide +kernel
theorem dX11_tryRow_51 : decode cX11_tryRow 51 = .ok (.iload 5, 2) := by decide +kernel
theorem dX11_tryRow_53 : decode cX11_tryRow 53 = .ok (.bipush 17, 2) := by decide +kernel
theorem dX11_tryRow_55 : decode cX11_tryRow 55 = .ok (.idiv, 1) := by decide +kernel
theorem dX11_tryRow_56 : decode cX11_tryRow 56 = .ok (.istore 5, 2) := by decide +kernel
theorem dX11_tryRow_58 : decode cX11_tryRow 58 = .ok (.goto (-48), 3) := by decide +kernel
theorem dX11_tryRow_61 : decode cX11_tryRow 61 = .ok (.aload_n 0, 1) := by decide +kernel
theorem dX11_tryRow_62 : decode cX11_tryRow 62 = .ok (.getfield 91, 3) := by decide +kernel
theorem dX11_tryRow_65 : decode cX11_tryRow 65 = .ok (.iconst 5, 1) := by decide +kernel
theorem dX11_tryRow_66 : decode cX11_tryRow 66 = .ok (.iload_n 1, 1) := by decide +kernel
theorem dX11_tryRow_67 : decode cX11_tryRow 67 = .ok (.imul, 1) := by decide +kernel
theorem dX11_tryRow_68 : decode cX11_tryRow 68 = .ok (.iload_n 3, 1) := by decide +kernel
theorem dX11_tryRow_69 : decode cX11_tryRow 69 = .ok (.iastore, 1) := by decide +kernel
theorem dX11_tryRow_70 : decode cX11_tryRow 70 = .ok (.return_, 1) := by decide +kernel
theorem dX11_tryNow_0 : decode cX11_tryNow 0 = .ok (.aload_n 0, 1) := by decide +kernel
theorem dX11_tryNow_1 : decode cX11_tryNow 1 = .ok (.iload_n 1, 1) := by decide +kernel
theorem dX11_tryNow_2 : decode cX11_tryNow 2 = .ok (.putfield 170, 3) := by decide +kernel
theorem dX11_tryNow_5 : decode cX11_tryNow 5 = .ok (.iconst 0, 1) := by decide +kernel
theorem dX11_tryNow_6 : decode cX11_tryNow 6 = .ok (.istore_n 3, 1) := by decide +kernel
theorem dX11_tryNow_7 : decode cX11_tryNow 7 = .ok (.iload_n 3, 1) := by decide +kernel
theorem dX11_tryNow_8 : decode cX11_tryNow 8 = .ok (.iload_n 1, 1) := by decide +kernel
theorem dX11_tryNow_9 : decode cX11_tryNow 9 = .ok (.if_icmp .ge 25, 3) := by decide +kernel
theorem dX11_tryNow_12 : decode cX11_tryNow 12 = .ok (.aload_n 0, 1) := by decide +kernel
theorem dX11_tryNow_13 : decode cX11_tryNow 13 = .ok (.iload_n 3, 1) := by decide +kernel
theorem dX11_tryNow_14 : decode cX11_tryNow 14 = .ok (.aload_n 0, 1) := by decide +kernel
theorem dX11_tryNow_15 : decode cX11_tryNow 15 = .ok (.getfield 113, 3) := by decide +kernel
theorem dX11_tryNow_18 : decode cX11_tryNow 18 = .ok (.aload_n 0, 1) := by decide +kernel
theorem dX11_tryNow_19 : decode cX11_tryNow 19 = .ok (.getfield 122, 3) := by decide +kernel
theorem dX11_tryNow_22 : decode cX11_tryNow 22 = .ok (.iload_n 3, 1) := by decide +kernel
theorem dX11_tryNow_23 : decode cX11_tryNow 23 = .ok (.iaload, 1) := by decide +kernel
theorem dX11_tryNow_24 : decode cX11_tryNow 24 = .ok (.iaload, 1) := by decide +kernel
theorem dX11_tryNow_25 : decode cX11_tryNow 25 = .ok (.invokevirtual 217, 3) := by decide +kernel
theorem dX11_tryNow_28 : decode cX11_tryNow 28 = .ok (.iinc 3 1, 3) := by decide +kernel
theorem dX11_tryNow_31 : decode cX11_tryNow 31 = .ok (.goto (-24), 3) := by decide +kernel
theorem dX11_tryNow_34 : decode cX11_tryNow 34 = .ok (.aload_n 0, 1) := by decide +kernel
theorem dX11_tryNow_35 : decode cX11_tryNow 35 = .ok (.iload_n 2, 1) := by decide +kernel
theorem dX11_tryNow_36 : decode cX11_tryNow 36 = .ok (.invokevirtual 208, 3) := by decide +kernel
theorem dX11_tryNow_39 : decode cX11_tryNow 39 = .ok (.istore_n 3, 1) := by decide +kernel
theorem dX11_tryNow_40 : decode cX11_tryNow 40 = .ok (.iload_n 3, 1) := by decide +kernel
theorem dX11_tryNow_41 : decode cX11_tryNow 41 = .ok (.aload_n 0, 1) := by decide +kernel
theorem dX11_tryNow_42 : decode cX11_tryNow 42 = .ok (.getfield 220, 3) := by decide +kernel
theorem dX11_tryNow_45 : decode cX11_tryNow 45 = .ok (.if_icmp .ge 42, 3) := by decide +kernel
theorem dX11_tryNow_48 : decode cX11_tryNow 48 = .ok (.aload_n 0, 1) := by decide +kernel
theorem dX11_tryNow_49 : decode cX11_tryNow 49 = .ok (.iload_n 3, 1) := by decide +kernel
theorem dX11_tryNow_50 : decode cX11_tryNow 50 = .ok (.putfield 220, 3) := by decide +kernel
theorem dX11_tryNow_53 : decode cX11_tryNow 53 = .ok (.aload_n 0, 1) := by decide +kernel
theorem dX11_tryNow_54 : decode cX11_tryNow 54 = .ok (.iload_n 1, 1) := by decide +kernel
theorem dX11_tryNow_55 : decode cX11_tryNow 55 = .ok (.putfield 223, 3) := by decide +kernel
theorem dX11_tryNow_58 : decode cX11_tryNow 58 = .ok (.iconst 0, 1) := by decide +kernel
theorem dX11_tryNow_59 : decode cX11_tryNow 59 = .ok (.istore 4, 2) := by decide +kernel
theorem dX11_tryNow_61 : decode cX11_tryNow 61 = .ok (.iload 4, 2) := by decide +kernel
theorem dX11_tryNow_63 : decode cX11_tryNow 63 = .ok (.iload_n 1, 1) := by decide +kernel
theorem dX11_tryNow_64 : decode cX11_tryNow 64 = .ok (.if_icmp .ge 23, 3) := by decide +kernel
theorem dX11_tryNow_67 : decode cX11_tryNow 67 = .ok (.aload_n 0, 1) := by decide +kernel
theorem dX11_tryNow_68 : decode cX11_tryNow 68 = .ok (.getfield 119, 3) := by decide +kernel
theorem dX11_tryNow_71 : decode cX11_tryNow 71 = .ok (.iload 4, 2) := by decide +kernel
theorem dX11_tryNow_73 : decode cX11_tryNow 73 = .ok (.aload_n 0, 1) := by decide +kernel
theorem dX11_tryNow_74 : decode cX11_tryNow 74 = .ok (.getfield 122, 3) := by decide +kernel
theorem dX11_tryNow_77 : decode cX11_tryNow 77 = .ok (.iload 4, 2) := by decide +kernel
theorem dX11_tryNow_79 : decode cX11_tryNow 79 = .ok (.iaload, 1) := by decide +kernel
theorem dX11_tryNow_80 : decode cX11_tryNow 80 = .ok (.iastore, 1) := by decide +kernel
theorem dX11_tryNow_81 : decode cX11_tryNow 81 = .ok (.iinc 4 1, 3) := by decide +kernel
theorem dX11_tryNow_84 : decode cX11_tryNow 84 = .ok (.goto (-23), 3) := by decide +kernel
theorem dX11_tryNow_87 : decode cX11_tryNow 87 = .ok (.return_, 1) := by decide +kernel
theorem dX11_choose_0 : decode cX11_choose 0 = .ok (.aload_n 0, 1) := by decide +kernel
theorem dX11_choose_1 : decode cX11_choose 1 = .ok (.iconst 0, 1) := by decide +kernel
theorem dX11_choose_2 : decode cX11_choose 2 = .ok (.putfield 134, 3) := by decide +kernel
theorem dX11_choose_5 : decode cX11_choose 5 = .ok (.iload_n 1, 1) := by decide +kernel
theorem dX11_choose_6 : decode cX11_choose 6 = .ok (.iconst 1, 1) := by decide +kernel
theorem dX11_choose_7 : decode cX11_choose 7 = .ok (.iconst 2, 1) := by decide +kernel
theorem dX11_choose_8 : decode cX11_choose 8 = .ok (.invokestatic 142, 3) := by decide +kernel
theorem dX11_choose_11 : decode cX11_choose 11 = .ok (.ifCond .ne 5, 3) := by decide +kernel
theorem dX11_choose_14 : decode cX11_choose 14 = .ok (.iconst (-1), 1) := by decide +kernel
theorem dX11_choose_15 : decode cX11_choose 15 = .ok (.ireturn, 1) := by decide +kernel
theorem dX11_choose_16 : decode cX11_choose 16 = .ok (.iload_n 2, 1) := by decide +kernel
theorem dX11_choose_17 : decode cX11_choose 17 = .ok (.ifCond .eq 7, 3) := by decide +kernel
theorem dX11_choose_20 : decode cX11_choose 20 = .ok (.iconst 1, 1) := by decide +kernel
theorem dX11_choose_21 : decode cX11_choose 21 = .ok (.goto 4, 3) := by decide +kernel
theorem dX11_choose_24 : decode cX11_choose 24 = .ok (.iconst 0, 1) := by decide +kernel
theorem dX11_choose_25 : decode cX11_choose 25 = .ok (.istore_n 3, 1) := by decide +kernel
theorem dX11_choose_26 : decode cX11_choose 26 = .ok (.aload_n 0, 1) := by decide +kernel
theorem dX11_choose_27 : decode cX11_choose 27 = .ok (.invokevirtual 226, 3) := by decide +kernel
theorem dX11_choose_30 : decode cX11_choose 30 = .ok (.aload_n 0, 1) := by decide +kernel
theorem dX11_choose_31 : decode cX11_choose 31 = .ok (.iconst 0, 1) := by decide +kernel
theorem dX11_choose_32 : decode cX11_choose 32 = .ok (.putfield 170, 3) := by decide +kernel
theorem dX11_choose_35 : decode cX11_choose 35 = .ok (.aload_n 0, 1) := by decide +kernel
theorem dX11_choose_36 : decode cX11_choose 36 = .ok (.iload_n 3, 1) := by decide +kernel
theorem dX11_choose_37 : decode cX11_choose 37 = .ok (.invokevirtual 208, 3) := by decide +kernel
theorem dX11_choose_40 : decode cX11_choose 40 = .ok (.istore 4, 2) := by decide +kernel
theorem dX11_choose_42 : decode cX11_choose 42 = .ok (.aload_n 0, 1) := by decide +kernel
theorem dX11_choose_43 : decode cX11_choose 43 = .ok (.iload 4, 2) := by decide +kernel
theorem dX11_choose_45 : decode cX11_choose 45 = .ok (.putfield 220, 3) := by decide +kernel
theorem dX11_choose_48 : decode cX11_choose 48 = .ok (.aload_n 0, 1) := by decide +kernel
theorem dX11_choose_49 : decode cX11_choose 49 = .ok (.iconst 0, 1) := by decide +kernel
theorem dX11_choose_50 : decode cX11_choose 50 = .ok (.putfield 223, 3) := by decide +kernel
theorem dX11_choose_53 : decode cX11_choose 53 = .ok (.iconst 0, 1) := by decide +kernel
theorem dX11_choose_54 : decode cX11_choose 54 = .ok (.istore 5, 2) := by decide +kernel
theorem dX11_choose_56 : decode cX11_choose 56 = .ok (.iload 5, 2) := by decide +kernel
theorem dX11_choose_58 : decode cX11_choose 58 = .ok (.aload_n 0, 1) := by decide +kernel
theorem dX11_choose_59 : decode cX11_choose 59 = .ok (.getfield 211, 3) := by decide +kernel
theorem dX11_choose_62 : decode cX11_choose 62 = .ok (.if_icmp .ge 41, 3) := by decide +kernel
theorem dX11_choose_65 : decode cX11_choose 65 = .ok (.aload_n 0, 1) := by decide +kernel
theorem dX11_choose_66 : decode cX11_choose 66 = .ok (.iconst 1, 1) := by decide +kernel
theorem dX11_choose_67 : decode cX11_choose 67 = .ok (.putfield 170, 3) := by decide +kernel
theorem dX11_choose_70 : decode cX11_choose 70 = .ok (.aload_n 0, 1) := by decide +kernel
theorem dX11_choose_71 : decode cX11_choose 71 = .ok (.iconst 0, 1) := by decide +kernel
theorem dX11_choose_72 : decode cX11_choose 72 = .ok (.aload_n 0, 1) := by decide +kernel
theorem dX11_choose_73 : decode cX11_choose 73 = .ok (.getfield 113, 3) := by decide +kernel
theorem dX11_choose_76 : decode cX11_choose 76 = .ok (.iload 5, 2) := by decide +kernel
theorem dX11_choose_78 : decode cX11_choose 78 = .ok (.iaload, 1) := by decide +kernel
theorem dX11_choose_79 : decode cX11_choose 79 = .ok (.invokevirtual 217, 3) := by decide +kernel
theorem dX11_choose_82 : decode cX11_choose 82 = .ok (.aload_n 0, 1) := by decide +kernel
theorem dX11_choose_83 : decode cX11_choose 83 = .ok (.getfield 116, 3) := by decide +kernel
theorem dX11_choose_86 : decode cX11_choose 86 = .ok (.iload 5, 2) := by decide +kernel
theorem dX11_choose_88 : decode cX11_choose 88 = .ok (.iload 4, 2) := by decide +kernel
theorem dX11_choose_90 : decode cX11_choose 90 = .ok (.aload_n 0, 1) := by decide +kernel
theorem dX11_choose_91 : decode cX11_choose 91 = .ok (.iload_n 3, 1) := by decide +kernel
theorem dX11_choose_92 : decode cX11_choose 92 = .ok (.invokevirtual 208, 3) := by decide +kernel
theorem dX11_choose_95 : decode cX11_choose 95 = .ok (.isub, 1) := by decide +kernel
theorem dX11_choose_96 : decode cX11_choose 96 = .ok (.iastore, 1) := by decide +kernel
theorem dX11_choose_97 : decode cX11_choose 97 = .ok (.iinc 5 1, 3) := by decide +kernel
theorem dX11_choose_100 : decode cX11_choose 100 = .ok (.goto (-44), 3) := by decide +kernel
theorem dX11_choose_103 : decode cX11_choose 103 = .ok (.iconst 0, 1) := by decide +kernel
theorem dX11_choose_104 : decode cX11_choose 104 = .ok (.istore 5, 2) := by decide +kernel
theorem dX11_choose_106 : decode cX11_choose 106 = .ok (.iconst 0, 1) := by decide +kernel
theorem dX11_choose_107 : decode cX11_choose 107 = .ok (.istore 6, 2) := by decide +kernel
theorem dX11_choose_109 : decode cX11_choose 109 = .ok (.iload 6, 2) := by decide +kernel
theorem dX11_choose_111 : decode cX11_choose 111 = .ok (.aload_n 0, 1) := by decide +kernel
theorem dX11_choose_112 : decode cX11_choose 112 = .ok (.getfield 211, 3) := by decide +kernel
theorem dX11_choose_115 : decode cX11_choose 115 = .ok (.if_icmp .ge 66, 3) := by decide +kernel
theorem dX11_choose_118 : decode cX11_choose 118 = .ok (.aload_n 0, 1) := by decide +kernel
theorem dX11_choose_119 : decode cX11_choose 119 = .ok (.getfield 122, 3) := by decide +kernel
theorem dX11_choose_122 : decode cX11_choose 122 = .ok (.iconst 0, 1) := by decide +kernel
theorem dX11_choose_123 : decode cX11_choose 123 = .ok (.iload 6, 2) := by decide +kernel
theorem dX11_choose_125 : decode cX11_choose 125 = .ok (.iastore, 1) := by decide +kernel
theorem dX11_choose_126 : decode cX11_choose 126 = .ok (.aload_n 0, 1) := by decide +kernel
theorem dX11_choose_127 : decode cX11_choose 127 = .ok (.getfield 116, 3) := by decide +kernel
theorem dX11_choose_130 : decode cX11_choose 130 = .ok (.iload 6, 2) := by decide +kernel
theorem dX11_choose_132 : decode cX11_choose 132 = .ok (.iaload, 1) := by decide +kernel
theorem dX11_choose_133 : decode cX11_choose 133 = .ok (.iload 5, 2) := by decide +kernel
theorem dX11_choose_135 : decode cX11_choose 135 = .ok (.if_icmp .le 13, 3) := by decide +kernel
theorem dX11_choose_138 : decode cX11_choose 138 = .ok (.aload_n 0, 1) := by decide +kernel
theorem dX11_choose_139 : decode cX11_choose 139 = .ok (.getfield 116, 3) := by decide +kernel
theorem dX11_choose_142 : decode cX11_choose 142 = .ok (.iload 6, 2) := by decide +kernel
theorem dX11_choose_144 : decode cX11_choose 144 = .ok (.iaload, 1) := by decide +kernel
theorem dX11_choose_145 : decode cX11_choose 145 = .ok (.goto 5, 3) := by decide +kernel
theorem dX11_choose_148 : decode cX11_choose 148 = .ok (.iload 5, 2) := by decide +kernel
theorem dX11_choose_150 : decode cX11_choose 150 = .ok (.istore 5, 2) := by decide +kernel
theorem dX11_choose_152 : decode cX11_choose 152 = .ok (.aload_n 0, 1) := by decide +kernel
theorem dX11_choose_153 : decode cX11_choose 153 = .ok (.getfield 116, 3) := by decide +kernel
theorem dX11_choose_156 : decode cX11_choose 156 = .ok (.iload 6, 2) := by decide +kernel
theorem dX11_choose_158 : decode cX11_choose 158 = .ok (.iaload, 1) := by decide +kernel
theorem dX11_choose_159 : decode cX11_choose 159 = .ok (.iload 4, 2) := by decide +kernel
theorem dX11_choose_161 : decode cX11_choose 161 = .ok (.aload_n 0, 1) := by decide +kernel
theorem dX11_choose_162 : decode cX11_choose 162 = .ok (.getfield 220, 3) := by decide +kernel
theorem dX11_choose_165 : decode cX11_choose 165 = .ok (.isub, 1) := by decide +kernel
theorem dX11_choose_166 : decode cX11_choose 166 = .ok (.if_icmp .le 9, 3) := by decide +kernel
theorem dX11_choose_169 : decode cX11_choose 169 = .ok (.aload_n 0, 1) := by decide +kernel
theorem dX11_choose_170 : decode cX11_choose 170 = .ok (.iconst 1, 1) := by decide +kernel
theorem dX11_choose_171 : decode cX11_choose 171 = .ok (.iload_n 3, 1) := by decide +kernel
theorem dX11_choose_172 : decode cX11_choose 172 = .ok (.invokevirtual 229, 3) := by decide +kernel
theorem dX11_choose_175 : decode cX11_choose 175 = .ok (.iinc 6 1, 3) := by decide +kernel
theorem dX11_choose_178 : decode cX11_choose 178 = .ok (.goto (-69), 3) := by decide +kernel
theorem dX11_choose_181 : decode cX11_choose 181 = .ok (.iconst 0, 1) := by decide +kernel
theorem dX11_choose_182 : decode cX11_choose 182 = .ok (.istore 6, 2) := by decide +kernel
theorem dX11_choose_184 : decode cX11_choose 184 = .ok (.iload_n 1, 1) := by decide +kernel
theorem dX11_choose_185 : decode cX11_choose 185 = .ok (.iconst 1, 1) := by decide +kernel
theorem dX11_choose_186 : decode cX11_choose 186 = .ok (.if_icmp .le 106, 3) := by decide +kernel
theorem dX11_choose_189 : decode cX11_choose 189 = .ok (.iload 6, 2) := by decide +kernel
theorem dX11_choose_191 : decode cX11_choose 191 = .ok (.aload_n 0, 1) := by decide +kernel
theorem dX11_choose_192 : decode cX11_choose 192 = .ok (.getfield 211, 3) := by decide +kernel
theorem dX11_choose_195 : decode cX11_choose 195 = .ok (.if_icmp .ge 97, 3) := by decide +kernel
theorem dX11_choose_198 : decode cX11_choose 198 = .ok (.iload 6, 2) := by decide +kernel
theorem dX11_choose_200 : decode cX11_choose 200 = .ok (.iconst 1, 1) := by decide +kernel
theorem dX11_choose_201 : decode cX11_choose 201 = .ok (.iadd, 1) := by decide +kernel
theorem dX11_choose_202 : decode cX11_choose 202 = .ok (.istore 7, 2) := by decide +kernel
theorem dX11_choose_204 : decode cX11_choose 204 = .ok (.iload 7, 2) := by decide +kernel
theorem dX11_choose_206 : decode cX11_choose 206 = .ok (.aload_n 0, 1) := by decide +kernel
theorem dX11_choose_207 : decode cX11_choose 207 = .ok (.getfield 211, 3) := by decide +kernel
theorem dX11_choose_210 : decode cX11_choose 210 = .ok (.if_icmp .ge 76, 3) := by decide +kernel
theorem dX11_choose_213 : decode cX11_choose 213 = .ok (.aload_n 0, 1) := by decide +kernel
theorem dX11_choose_214 : decode cX11_choose 214 = .ok (.getfield 116, 3) := by decide +kernel
theorem dX11_choose_217 : decode cX11_choose 217 = .ok (.iload 6, 2) := by decide +kernel
theorem dX11_choose_219 : decode cX11_choose 219 = .ok (.iaload, 1) := by decide +kernel
theorem dX11_choose_220 : decode cX11_choose 220 = .ok (.iload 5, 2) := by decide +kernel
theorem dX11_choose_222 : decode cX11_choose 222 = .ok (.iadd, 1) := by decide +kernel
theorem dX11_choose_223 : decode cX11_choose 223 = .ok (.iload 4, 2) := by decide +kernel
theorem dX11_choose_225 : decode cX11_choose 225 = .ok (.aload_n 0, 1) := by decide +kernel
theorem dX11_choose_226 : decode cX11_choose 226 = .ok (.getfield 220, 3) := by decide +kernel
theorem dX11_choose_229 : decode cX11_choose 229 = .ok (.isub, 1) := by decide +kernel
theorem dX11_choose_230 : decode cX11_choose 230 = .ok (.if_icmp .le 56, 3) := by decide +kernel
theorem dX11_choose_233 : decode cX11_choose 233 = .ok (.aload_n 0, 1) := by decide +kernel
theorem dX11_choose_234 : decode cX11_choose 234 = .ok (.getfield 116, 3) := by decide +kernel
theorem dX11_choose_237 : decode cX11_choose 237 = .ok (.iload 6, 2) := by decide +kernel
theorem dX11_choose_239 : decode cX11_choose 239 = .ok (.iaload, 1) := by decide +kernel
theorem dX11_choose_240 : decode cX11_choose 240 = .ok (.aload_n 0, 1) := by decide +kernel
theorem dX11_choose_241 : decode cX11_choose 241 = .ok (.getfield 116, 3) := by decide +kernel
theorem dX11_choose_244 : decode cX11_choose 244 = .ok (.iload 7, 2) := by decide +kernel
theorem dX11_choose_246 : decode cX11_choose 246 = .ok (.iaload, 1) := by decide +kernel
theorem dX11_choose_247 : decode cX11_choose 247 = .ok (.iadd, 1) := by decide +kernel
theorem dX11_choose_248 : decode cX11_choose 248 = .ok (.iload 4, 2) := by decide +kernel
theorem dX11_choose_250 : decode cX11_choose 250 = .ok (.aload_n 0, 1) := by decide +kernel
theorem dX11_choose_251 : decode cX11_choose 251 = .ok (.getfield 220, 3) := by decide +kernel
theorem dX11_choose_254 : decode cX11_choose 254 = .ok (.isub, 1) := by decide +kernel
theorem dX11_choose_255 : decode cX11_choose 255 = .ok (.if_icmp .le 25, 3) := by decide +kernel
theorem dX11_choose_258 : decode cX11_choose 258 = .ok (.aload_n 0, 1) := by decide +kernel
theorem dX11_choose_259 : decode cX11_choose 259 = .ok (.getfield 122, 3) := by decide +kernel
theorem dX11_choose_262 : decode cX11_choose 262 = .ok (.iconst 0, 1) := by decide +kernel
theorem dX11_choose_263 : decode cX11_choose 263 = .ok (.iload 6, 2) := by decide +kernel
theorem dX11_choose_265 : decode cX11_choose 265 = .ok (.iastore, 1) := by decide +kernel
theorem dX11_choose_266 : decode cX11_choose 266 = .ok (.aload_n 0, 1) := by decide +kernel
theorem dX11_choose_267 : decode cX11_choose 267 = .ok (.getfield 122, 3) := by decide +kernel
theorem dX11_choose_270 : decode cX11_choose 270 = .ok (.iconst 1, 1) := by decide +kernel
theorem dX11_choose_271 : decode cX11_choose 271 = .ok (.iload 7, 2) := by decide +kernel
theorem dX11_choose_273 : decode cX11_choose 273 = .ok (.iastore, 1) := by decide +kernel
theorem dX11_choose_274 : decode cX11_choose 274 = .ok (.aload_n 0, 1) := by decide +kernel
theorem dX11_choose_275 : decode cX11_choose 275 = .ok (.iconst 2, 1) := by decide +kernel
theorem dX11_choose_276 : decode cX11_choose 276 = .ok (.iload_n 3, 1) := by decide +kernel
theorem dX11_choose_277 : decode cX11_choose 277 = .ok (.invokevirtual 229, 3) := by decide +kernel
theorem dX11_choose_280 : decode cX11_choose 280 = .ok (.iinc 7 1, 3) := by decide +kernel
theorem dX11_choose_283 : decode cX11_choose 283 = .ok (.goto (-79), 3) := by decide +kernel
theorem dX11_choose_286 : decode cX11_choose 286 = .ok (.iinc 6 1, 3) := by decide +kernel
theorem dX11_choose_289 : decode cX11_choose 289 = .ok (.goto (-105), 3) := by decide +kernel
theorem dX11_choose_292 : decode cX11_choose 292 = .ok (.aload_n 0, 1) := by decide +kernel
theorem dX11_choose_293 : decode cX11_choose 293 = .ok (.getfield 79, 3) := by decide +kernel
theorem dX11_choose_296 : decode cX11_choose 296 = .ok (.iconst 0, 1) := by decide +kernel
theorem dX11_choose_297 : decode cX11_choose 297 = .ok (.aload_n 0, 1) := by decide +kernel
theorem dX11_choose_298 : decode cX11_choose 298 = .ok (.getfield 223, 3) := by decide +kernel
theorem dX11_choose_301 : decode cX11_choose 301 = .ok (.iastore, 1) := by decide +kernel
theorem dX11_choose_302 : decode cX11_choose 302 = .ok (.iconst 0, 1) := by decide +kernel
theorem dX11_choose_303 : decode cX11_choose 303 = .ok (.istore 6, 2) := by decide +kernel
theorem dX11_choose_305 : decode cX11_choose 305 = .ok (.iload 6, 2) := by decide +kernel
theorem dX11_choose_307 : decode cX11_choose 307 = .ok (.aload_n 0, 1) := by decide +kernel
theorem dX11_choose_308 : decode cX11_choose 308 = .ok (.getfield 223, 3) := by decide +kernel
theorem dX11_choose_311 : decode cX11_choose 311 = .ok (.if_icmp .ge 75, 3) := by decide +kernel
theorem dX11_choose_314 : decode cX11_choose 314 = .ok (.aload_n 0, 1) := by decide +kernel
theorem dX11_choose_315 : decode cX11_choose 315 = .ok (.iconst 0, 1) := by decide +kernel
theorem dX11_choose_316 : decode cX11_choose 316 = .ok (.aload_n 0, 1) := by decide +kernel
theorem dX11_choose_317 : decode cX11_choose 317 = .ok (.getfield 113, 3) := by decide +kernel
theorem dX11_choose_320 : decode cX11_choose 320 = .ok (.aload_n 0, 1) := by decide +kernel
theorem dX11_choose_321 : decode cX11_choose 321 = .ok (.getfield 119, 3) := by decide +kernel
theorem dX11_choose_324 : decode cX11_choose 324 = .ok (.iload 6, 2) := by decide +kernel
theorem dX11_choose_326 : decode cX11_choose 326 = .ok (.iaload, 1) := by decide +kernel
theorem dX11_choose_327 : decode cX11_choose 327 = .ok (.iaload, 1) := by decide +kernel
theorem dX11_choose_328 : decode cX11_choose 328 = .ok (.invokevirtual 217, 3) := by decide +kernel
theorem dX11_choose_331 : decode cX11_choose 331 = .ok (.iconst 0, 1) := by decide +kernel
theorem dX11_choose_332 : decode cX11_choose 332 = .ok (.istore 7, 2) := by decide +kernel
theorem dX11_choose_334 : decode cX11_choose 334 = .ok (.iload 7, 2) := by decide +kernel
theorem dX11_choose_336 : decode cX11_choose 336 = .ok (.iconst 5, 1) := by decide +kernel
theorem dX11_choose_337 : decode cX11_choose 337 = .ok (.if_icmp .ge 43, 3) := by decide +kernel
theorem dX11_choose_340 : decode cX11_choose 340 = .ok (.aload_n 0, 1) := by decide +kernel
theorem dX11_choose_341 : decode cX11_choose 341 = .ok (.getfield 82, 3) := by decide +kernel
theorem dX11_choose_344 : decode cX11_choose 344 = .ok (.iconst 5, 1) := by decide +kernel
theorem dX11_choose_345 : decode cX11_choose 345 = .ok (.iload 6, 2) := by decide +kernel
theorem dX11_choose_347 : decode cX11_choose 347 = .ok (.imul, 1) := by decide +kernel
theorem dX11_choose_348 : decode cX11_choose 348 = .ok (.iload 7, 2) := by decide +kernel
theorem dX11_choose_350 : decode cX11_choose 350 = .ok (.iadd, 1) := by decide +kernel
theorem dX11_choose_351 : decode cX11_choose 351 = .ok (.iload 7, 2) := by decide +kernel
theorem dX11_choose_353 : decode cX11_choose 353 = .ok (.aload_n 0, 1) := by decide +kernel
theorem dX11_choose_354 : decode cX11_choose 354 = .ok (.getfield 91, 3) := by decide +kernel
theorem dX11_choose_357 : decode cX11_choose 357 = .ok (.iconst 0, 1) := by decide +kernel
theorem dX11_choose_358 : decode cX11_choose 358 = .ok (.iaload, 1) := by decide +kernel
theorem dX11_choose_359 : decode cX11_choose 359 = .ok (.if_icmp .gt 13, 3) := by decide +kernel
theorem dX11_choose_362 : decode cX11_choose 362 = .ok (.aload_n 0, 1) := by decide +kernel
theorem dX11_choose_363 : decode cX11_choose 363 = .ok (.getfield 91, 3) := by decide +kernel
theorem dX11_choose_366 : decode cX11_choose 366 = .ok (.iload 7, 2) := by decide +kernel
theorem dX11_choose_368 : decode cX11_choose 368 = .ok (.iaload, 1) := by decide +kernel
theorem dX11_choose_369 : decode cX11_choose 369 = .ok (.goto 4, 3) := by decide +kernel
theorem dX11_choose_372 : decode cX11_choose 372 = .ok (.iconst 0, 1) := by decide +kernel
theorem dX11_choose_373 : decode cX11_choose 373 = .ok (.iastore, 1) := by decide +kernel
theorem dX11_choose_374 : decode cX11_choose 374 = .ok (.iinc 7 1, 3) := by decide +kernel
theorem dX11_choose_377 : decode cX11_choose 377 = .ok (.goto (-43), 3) := by decide +kernel
theorem dX11_choose_380 : decode cX11_choose 380 = .ok (.iinc 6 1, 3) := by decide +kernel
theorem dX11_choose_383 : decode cX11_choose 383 = .ok (.goto (-78), 3) := by decide +kernel
theorem dX11_choose_386 : decode cX11_choose 386 = .ok (.aload_n 0, 1) := by decide +kernel
theorem dX11_choose_387 : decode cX11_choose 387 = .ok (.getfield 220, 3) := by decide +kernel
theorem dX11_choose_390 : decode cX11_choose 390 = .ok (.ireturn, 1) := by decide +kernel
theorem dX11_chosen_0 : decode cX11_chosen 0 = .ok (.aload_n 0, 1) := by decide +kernel
theorem dX11_chosen_1 : decode cX11_chosen 1 = .ok (.iconst 0, 1) := by decide +kernel
theorem dX11_chosen_2 : decode cX11_chosen 2 = .ok (.putfield 134, 3) := by decide +kernel
theorem dX11_chosen_5 : decode cX11_chosen 5 = .ok (.iload_n 1, 1) := by decide +kernel
theorem dX11_chosen_6 : decode cX11_chosen 6 = .ok (.iconst 0, 1) := by decide +kernel
theorem dX11_chosen_7 : decode cX11_chosen 7 = .ok (.aload_n 0, 1) := by decide +kernel
theorem dX11_chosen_8 : decode cX11_chosen 8 = .ok (.getfield 79, 3) := by decide +kernel
theorem dX11_chosen_11 : decode cX11_chosen 11 = .ok (.iconst 0, 1) := by decide +kernel
theorem dX11_chosen_12 : decode cX11_chosen 12 = .ok (.iaload, 1) := by decide +kernel
theorem dX11_chosen_13 : decode cX11_chosen 13 = .ok (.iconst 1, 1) := by decide +kernel
theorem dX11_chosen_14 : decode cX11_chosen 14 = .ok (.isub, 1) := by decide +kernel
theorem dX11_chosen_15 : decode cX11_chosen 15 = .ok (.invokestatic 142, 3) := by decide +kernel
theorem dX11_chosen_18 : decode cX11_chosen 18 = .ok (.ifCond .eq 36, 3) := by decide +kernel
theorem dX11_chosen_21 : decode cX11_chosen 21 = .ok (.iload_n 2, 1) := by decide +kernel
theorem dX11_chosen_22 : decode cX11_chosen 22 = .ok (.iconst 0, 1) := by decide +kernel
theorem dX11_chosen_23 : decode cX11_chosen 23 = .ok (.aload_n 0, 1) := by decide +kernel
theorem dX11_chosen_24 : decode cX11_chosen 24 = .ok (.getfield 82, 3) := by decide +kernel
theorem dX11_chosen_27 : decode cX11_chosen 27 = .ok (.iconst 5, 1) := by decide +kernel
theorem dX11_chosen_28 : decode cX11_chosen 28 = .ok (.iload_n 1, 1) := by decide +kernel
theorem dX11_chosen_29 : decode cX11_chosen 29 = .ok (.imul, 1) := by decide +kernel
theorem dX11_chosen_30 : decode cX11_chosen 30 = .ok (.iaload, 1) := by decide +kernel
theorem dX11_chosen_31 : decode cX11_chosen 31 = .ok (.iconst 1, 1) := by decide +kernel
theorem dX11_chosen_32 : decode cX11_chosen 32 = .ok (.isub, 1) := by decide +kernel
theorem dX11_chosen_33 : decode cX11_chosen 33 = .ok (.invokestatic 142, 3) := by decide +kernel
theorem dX11_chosen_36 : decode cX11_chosen 36 = .ok (.ifCond .eq 18, 3) := by decide +kernel
theorem dX11_chosen_39 : decode cX11_chosen 39 = .ok (.aload_n 0, 1) := by decide +kernel
theorem dX11_chosen_40 : decode cX11_chosen 40 = .ok (.getfield 82, 3) := by decide +kernel
theorem dX11_chosen_43 : decode cX11_chosen 43 = .ok (.iconst 5, 1) := by decide +kernel
theorem dX11_chosen_44 : decode cX11_chosen 44 = .ok (.iload_n 1, 1) := by decide +kernel
theorem dX11_chosen_45 : decode cX11_chosen 45 = .ok (.imul, 1) := by decide +kernel
theorem dX11_chosen_46 : decode cX11_chosen 46 = .ok (.iconst 1, 1) := by decide +kernel
theorem dX11_chosen_47 : decode cX11_chosen 47 = .ok (.iadd, 1) := by decide +kernel
theorem dX11_chosen_48 : decode cX11_chosen 48 = .ok (.iload_n 2, 1) := by decide +kernel
theorem dX11_chosen_49 : decode cX11_chosen 49 = .ok (.iadd, 1) := by decide +kernel
theorem dX11_chosen_50 : decode cX11_chosen 50 = .ok (.iaload, 1) := by decide +kernel
theorem dX11_chosen_51 : decode cX11_chosen 51 = .ok (.goto 4, 3) := by decide +kernel
theorem dX11_chosen_54 : decode cX11_chosen 54 = .ok (.iconst (-1), 1) := by decide +kernel
theorem dX11_chosen_55 : decode cX11_chosen 55 = .ok (.ireturn, 1) := by decide +kernel
theorem dX11_take_0 : decode cX11_take 0 = .ok (.aload_n 0, 1) := by decide +kernel
theorem dX11_take_1 : decode cX11_take 1 = .ok (.iconst 0, 1) := by decide +kernel
theorem dX11_take_2 : decode cX11_take 2 = .ok (.putfield 134, 3) := by decide +kernel
theorem dX11_take_5 : decode cX11_take 5 = .ok (.aload_n 0, 1) := by decide +kernel
theorem dX11_take_6 : decode cX11_take 6 = .ok (.getfield 79, 3) := by decide +kernel
theorem dX11_take_9 : decode cX11_take 9 = .ok (.iconst 0, 1) := by decide +kernel
theorem dX11_take_10 : decode cX11_take 10 = .ok (.iaload, 1) := by decide +kernel
theorem dX11_take_11 : decode cX11_take 11 = .ok (.iconst (-1), 1) := by decide +kernel
theorem dX11_take_12 : decode cX11_take 12 = .ok (.if_icmp .ne 5, 3) := by decide +kernel
theorem dX11_take_15 : decode cX11_take 15 = .ok (.iconst (-1), 1) := by decide +kernel
theorem dX11_take_16 : decode cX11_take 16 = .ok (.ireturn, 1) := by decide +kernel
theorem dX11_take_17 : decode cX11_take 17 = .ok (.aload_n 0, 1) := by decide +kernel
theorem dX11_take_18 : decode cX11_take 18 = .ok (.getfield 25, 3) := by decide +kernel
theorem dX11_take_21 : decode cX11_take 21 = .ok (.iconst 0, 1) := by decide +kernel
theorem dX11_take_22 : decode cX11_take 22 = .ok (.aload_n 0, 1) := by decide +kernel
theorem dX11_take_23 : decode cX11_take 23 = .ok (.getfield 79, 3) := by decide +kernel
theorem dX11_take_26 : decode cX11_take 26 = .ok (.iconst 0, 1) := by decide +kernel
theorem dX11_take_27 : decode cX11_take 27 = .ok (.iaload, 1) := by decide +kernel
theorem dX11_take_28 : decode cX11_take 28 = .ok (.iastore, 1) := by decide +kernel
theorem dX11_take_29 : decode cX11_take 29 = .ok (.iconst 0, 1) := by decide +kernel
theorem dX11_take_30 : decode cX11_take 30 = .ok (.istore_n 1, 1) := by decide +kernel
theorem dX11_take_31 : decode cX11_take 31 = .ok (.iload_n 1, 1) := by decide +kernel
theorem dX11_take_32 : decode cX11_take 32 = .ok (.iconst 5, 1) := by decide +kernel
theorem dX11_take_33 : decode cX11_take 33 = .ok (.aload_n 0, 1) := by decide +kernel
theorem dX11_take_34 : decode cX11_take 34 = .ok (.getfield 25, 3) := by decide +kernel
theorem dX11_take_37 : decode cX11_take 37 = .ok (.iconst 0, 1) := by decide +kernel
theorem dX11_take_38 : decode cX11_take 38 = .ok (.iaload, 1) := by decide +kernel
theorem dX11_take_39 : decode cX11_take 39 = .ok (.imul, 1) := by decide +kernel
theorem dX11_take_40 : decode cX11_take 40 = .ok (.if_icmp .ge 21, 3) := by decide +kernel
theorem dX11_take_43 : decode cX11_take 43 = .ok (.aload_n 0, 1) := by decide +kernel
theorem dX11_take_44 : decode cX11_take 44 = .ok (.getfield 28, 3) := by decide +kernel
theorem dX11_take_47 : decode cX11_take 47 = .ok (.iload_n 1, 1) := by decide +kernel
theorem dX11_take_48 : decode cX11_take 48 = .ok (.aload_n 0, 1) := by decide +kernel
theorem dX11_take_49 : decode cX11_take 49 = .ok (.getfield 82, 3) := by decide +kernel
theorem dX11_take_52 : decode cX11_take 52 = .ok (.iload_n 1, 1) := by decide +kernel
theorem dX11_take_53 : decode cX11_take 53 = .ok (.iaload, 1) := by decide +kernel
theorem dX11_take_54 : decode cX11_take 54 = .ok (.iastore, 1) := by decide +kernel
theorem dX11_take_55 : decode cX11_take 55 = .ok (.iinc 1 1, 3) := by decide +kernel
theorem dX11_take_58 : decode cX11_take 58 = .ok (.goto (-27), 3) := by decide +kernel
theorem dX11_take_61 : decode cX11_take 61 = .ok (.aload_n 0, 1) := by decide +kernel
theorem dX11_take_62 : decode cX11_take 62 = .ok (.getfield 25, 3) := by decide +kernel
theorem dX11_take_65 : decode cX11_take 65 = .ok (.iconst 0, 1) := by decide +kernel
theorem dX11_take_66 : decode cX11_take 66 = .ok (.iaload, 1) := by decide +kernel
theorem dX11_take_67 : decode cX11_take 67 = .ok (.ireturn, 1) := by decide +kernel
theorem dX11_feed_0 : decode cX11_feed 0 = .ok (.aload_n 0, 1) := by decide +kernel
theorem dX11_feed_1 : decode cX11_feed 1 = .ok (.iconst 0, 1) := by decide +kernel
theorem dX11_feed_2 : decode cX11_feed 2 = .ok (.putfield 134, 3) := by decide +kernel
theorem dX11_feed_5 : decode cX11_feed 5 = .ok (.iload_n 2, 1) := by decide +kernel
theorem dX11_feed_6 : decode cX11_feed 6 = .ok (.iconst 1, 1) := by decide +kernel
theorem dX11_feed_7 : decode cX11_feed 7 = .ok (.iconst 4, 1) := by decide +kernel
theorem dX11_feed_8 : decode cX11_feed 8 = .ok (.invokestatic 142, 3) := by decide +kernel
theorem dX11_feed_11 : decode cX11_feed 11 = .ok (.ifCond .eq 17, 3) := by decide +kernel
theorem dX11_feed_14 : decode cX11_feed 14 = .ok (.aload_n 0, 1) := by decide +kernel
theorem dX11_feed_15 : decode cX11_feed 15 = .ok (.getfield 85, 3) := by decide +kernel
theorem dX11_feed_18 : decode cX11_feed 18 = .ok (.iconst 0, 1) := by decide +kernel
theorem dX11_feed_19 : decode cX11_feed 19 = .ok (.iaload, 1) := by decide +kernel
theorem dX11_feed_20 : decode cX11_feed 20 = .ok (.iload_n 2, 1) := by decide +kernel
theorem dX11_feed_21 : decode cX11_feed 21 = .ok (.iadd, 1) := by decide +kernel
theorem dX11_feed_22 : decode cX11_feed 22 = .ok (.sipush 160, 3) := by decide +kernel
theorem dX11_feed_25 : decode cX11_feed 25 = .ok (.if_icmp .le 5, 3) := by decide +kernel
theorem dX11_feed_28 : decode cX11_feed 28 = .ok (.iconst (-1), 1) := by decide +kernel
theorem dX11_feed_29 : decode cX11_feed 29 = .ok (.ireturn, 1) := by decide +kernel
theorem dX11_feed_30 : decode cX11_feed 30 = .ok (.iconst 0, 1) := by decide +kernel
theorem dX11_feed_31 : decode cX11_feed 31 = .ok (.istore_n 3, 1) := by decide +kernel
theorem dX11_feed_32 : decode cX11_feed 32 = .ok (.iload_n 3, 1) := by decide +kernel
theorem dX11_feed_33 : decode cX11_feed 33 = .ok (.iload_n 2, 1) := by decide +kernel
theorem dX11_feed_34 : decode cX11_feed 34 = .ok (.if_icmp .ge 43, 3) := by decide +kernel
theorem dX11_feed_37 : decode cX11_feed 37 = .ok (.aload_n 0, 1) := by decide +kernel
theorem dX11_feed_38 : decode cX11_feed 38 = .ok (.getfield 88, 3) := by decide +kernel
theorem dX11_feed_41 : decode cX11_feed 41 = .ok (.aload_n 0, 1) := by decide +kernel
theorem dX11_feed_42 : decode cX11_feed 42 = .ok (.getfield 85, 3) := by decide +kernel
theorem dX11_feed_45 : decode cX11_feed 45 = .ok (.iconst 0, 1) := by decide +kernel
theorem dX11_feed_46 : decode cX11_feed 46 = .ok (.iaload, 1) := by decide +kernel
theorem dX11_feed_47 : decode cX11_feed 47 = .ok (.iload_n 1, 1) := by decide +kernel
theorem dX11_feed_48 : decode cX11_feed 48 = .ok (.bipush 24, 2) := by decide +kernel
theorem dX11_feed_50 : decode cX11_feed 50 = .ok (.bipush 8, 2) := by decide +kernel
theorem dX11_feed_52 : decode cX11_feed 52 = .ok (.iload_n 3, 1) := by decide +kernel
theorem dX11_feed_53 : decode cX11_feed 53 = .ok (.imul, 1) := by decide +kernel
theorem dX11_feed_54 : decode cX11_feed 54 = .ok (.isub, 1) := by decide +kernel
theorem dX11_feed_55 : decode cX11_feed 55 = .ok (.ishr, 1) := by decide +kernel
theorem dX11_feed_56 : decode cX11_feed 56 = .ok (.sipush 255, 3) := by decide +kernel
theorem dX11_feed_59 : decode cX11_feed 59 = .ok (.iand, 1) := by decide +kernel
theorem dX11_feed_60 : decode cX11_feed 60 = .ok (.iastore, 1) := by decide +kernel
theorem dX11_feed_61 : decode cX11_feed 61 = .ok (.aload_n 0, 1) := by decide +kernel
theorem dX11_feed_62 : decode cX11_feed 62 = .ok (.getfield 85, 3) := by decide +kernel
theorem dX11_feed_65 : decode cX11_feed 65 = .ok (.iconst 0, 1) := by decide +kernel
theorem dX11_feed_66 : decode cX11_feed 66 = .ok (.dup2, 1) := by decide +kernel
theorem dX11_feed_67 : decode cX11_feed 67 = .ok (.iaload, 1) := by decide +kernel
theorem dX11_feed_68 : decode cX11_feed 68 = .ok (.iconst 1, 1) := by decide +kernel
theorem dX11_feed_69 : decode cX11_feed 69 = .ok (.iadd, 1) := by decide +kernel
theorem dX11_feed_70 : decode cX11_feed 70 = .ok (.iastore, 1) := by decide +kernel
theorem dX11_feed_71 : decode cX11_feed 71 = .ok (.iinc 3 1, 3) := by decide +kernel
theorem dX11_feed_74 : decode cX11_feed 74 = .ok (.goto (-42), 3) := by decide +kernel
theorem dX11_feed_77 : decode cX11_feed 77 = .ok (.aload_n 0, 1) := by decide +kernel
theorem dX11_feed_78 : decode cX11_feed 78 = .ok (.getfield 85, 3) := by decide +kernel
theorem dX11_feed_81 : decode cX11_feed 81 = .ok (.iconst 0, 1) := by decide +kernel
theorem dX11_feed_82 : decode cX11_feed 82 = .ok (.iaload, 1) := by decide +kernel
theorem dX11_feed_83 : decode cX11_feed 83 = .ok (.ireturn, 1) := by decide +kernel
theorem dX11_readOrder_0 : decode cX11_readOrder 0 = .ok (.aload_n 0, 1) := by decide +kernel
theorem dX11_readOrder_1 : decode cX11_readOrder 1 = .ok (.getfield 232, 3) := by decide +kernel
theorem dX11_readOrder_4 : decode cX11_readOrder 4 = .ok (.bipush 40, 2) := by decide +kernel
theorem dX11_readOrder_6 : decode cX11_readOrder 6 = .ok (.if_icmp .ne 5, 3) := by decide +kernel
theorem dX11_readOrder_9 : decode cX11_readOrder 9 = .ok (.iconst 0, 1) := by decide +kernel
theorem dX11_readOrder_10 : decode cX11_readOrder 10 = .ok (.ireturn, 1) := by decide +kernel
theorem dX11_readOrder_11 : decode cX11_readOrder 11 = .ok (.iconst 0, 1) := by decide +kernel
theorem dX11_readOrder_12 : decode cX11_readOrder 12 = .ok (.istore_n 2, 1) := by decide +kernel
theorem dX11_readOrder_13 : decode cX11_readOrder 13 = .ok (.iload_n 1, 1) := by decide +kernel
theorem dX11_readOrder_14 : decode cX11_readOrder 14 = .ok (.invokestatic 158, 3) := by decide +kernel
theorem dX11_readOrder_17 : decode cX11_readOrder 17 = .ok (.ifCond .eq 55, 3) := by decide +kernel
theorem dX11_readOrder_20 : decode cX11_readOrder 20 = .ok (.aload_n 0, 1) := by decide +kernel
theorem dX11_readOrder_21 : decode cX11_readOrder 21 = .ok (.getfield 235, 3) := by decide +kernel
theorem dX11_readOrder_24 : decode cX11_readOrder 24 = .ok (.aload_n 0, 1) := by decide +kernel
theorem dX11_readOrder_25 : decode cX11_readOrder 25 = .ok (.getfield 85, 3) := by decide +kernel
theorem dX11_readOrder_28 : decode cX11_readOrder 28 = .ok (.iconst 0, 1) := by decide +kernel
theorem dX11_readOrder_29 : decode cX11_readOrder 29 = .ok (.iaload, 1) := by decide +kernel
theorem dX11_readOrder_30 : decode cX11_readOrder 30 = .ok (.if_icmp .ne 5, 3) := by decide +kernel
theorem dX11_readOrder_33 : decode cX11_readOrder 33 = .ok (.iconst 0, 1) := by decide +kernel
theorem dX11_readOrder_34 : decode cX11_readOrder 34 = .ok (.ireturn, 1) := by decide +kernel
theorem dX11_readOrder_35 : decode cX11_readOrder 35 = .ok (.iload_n 1, 1) := by decide +kernel
theorem dX11_readOrder_36 : decode cX11_readOrder 36 = .ok (.ifCond .ne 16, 3) := by decide +kernel
theorem dX11_readOrder_39 : decode cX11_readOrder 39 = .ok (.aload_n 0, 1) := by decide +kernel
theorem dX11_readOrder_40 : decode cX11_readOrder 40 = .ok (.getfield 88, 3) := by decide +kernel
theorem dX11_readOrder_43 : decode cX11_readOrder 43 = .ok (.aload_n 0, 1) := by decide +kernel
theorem dX11_readOrder_44 : decode cX11_readOrder 44 = .ok (.getfield 235, 3) := by decide +kernel
theorem dX11_readOrder_47 : decode cX11_readOrder 47 = .ok (.iaload, 1) := by decide +kernel
theorem dX11_readOrder_48 : decode cX11_readOrder 48 = .ok (.i2b, 1) := by decide +kernel
theorem dX11_readOrder_49 : decode cX11_readOrder 49 = .ok (.goto 12, 3) := by decide +kernel
theorem dX11_readOrder_52 : decode cX11_readOrder 52 = .ok (.aload_n 0, 1) := by decide +kernel
theorem dX11_readOrder_53 : decode cX11_readOrder 53 = .ok (.getfield 88, 3) := by decide +kernel
theorem dX11_readOrder_56 : decode cX11_readOrder 56 = .ok (.aload_n 0, 1) := by decide +kernel
theorem dX11_readOrder_57 : decode cX11_readOrder 57 = .ok (.getfield 235, 3) := by decide +kernel
theorem dX11_readOrder_60 : decode cX11_readOrder 60 = .ok (.iaload, 1) := by decide +kernel
theorem dX11_readOrder_61 : decode cX11_readOrder 61 = .ok (.istore_n 2, 1) := by decide +kernel
theorem dX11_readOrder_62 : decode cX11_readOrder 62 = .ok (.aload_n 0, 1) := by decide +kernel
theorem dX11_readOrder_63 : decode cX11_readOrder 63 = .ok (.dup, 1) := by decide +kernel
theorem dX11_readOrder_64 : decode cX11_readOrder 64 = .ok (.getfield 235, 3) := by decide +kernel
theorem dX11_readOrder_67 : decode cX11_readOrder 67 = .ok (.iconst 1, 1) := by decide +kernel
theorem dX11_readOrder_68 : decode cX11_readOrder 68 = .ok (.iadd, 1) := by decide +kernel
theorem dX11_readOrder_69 : decode cX11_readOrder 69 = .ok (.putfield 235, 3) := by decide +kernel
theorem dX11_readOrder_72 : decode cX11_readOrder 72 = .ok (.iload_n 1, 1) := by decide +kernel
theorem dX11_readOrder_73 : decode cX11_readOrder 73 = .ok (.iload_n 2, 1) := by decide +kernel
theorem dX11_readOrder_74 : decode cX11_readOrder 74 = .ok (.invokestatic 154, 3) := by decide +kernel
theorem dX11_readOrder_77 : decode cX11_readOrder 77 = .ok (.ifCond .ne 5, 3) := by decide +kernel
theorem dX11_readOrder_80 : decode cX11_readOrder 80 = .ok (.iconst 0, 1) := by decide +kernel
theorem dX11_readOrder_81 : decode cX11_readOrder 81 = .ok (.ireturn, 1) := by decide +kernel
theorem dX11_readOrder_82 : decode cX11_readOrder 82 = .ok (.aload_n 0, 1) := by decide +kernel
theorem dX11_readOrder_83 : decode cX11_readOrder 83 = .ok (.getfield 125, 3) := by decide +kernel
theorem dX11_readOrder_86 : decode cX11_readOrder 86 = .ok (.aload_n 0, 1) := by decide +kernel
theorem dX11_readOrder_87 : decode cX11_readOrder 87 = .ok (.getfield 232, 3) := by decide +kernel
theorem dX11_readOrder_90 : decode cX11_readOrder 90 = .ok (.iload_n 1, 1) := by decide +kernel
theorem dX11_readOrder_91 : decode cX11_readOrder 91 = .ok (.iastore, 1) := by decide +kernel
theorem dX11_readOrder_92 : decode cX11_readOrder 92 = .ok (.aload_n 0, 1) := by decide +kernel
theorem dX11_readOrder_93 : decode cX11_readOrder 93 = .ok (.getfield 128, 3) := by decide +kernel
theorem dX11_readOrder_96 : decode cX11_readOrder 96 = .ok (.aload_n 0, 1) := by decide +kernel
theorem dX11_readOrder_97 : decode cX11_readOrder 97 = .ok (.getfield 232, 3) := by decide +kernel
theorem dX11_readOrder_100 : decode cX11_readOrder 100 = .ok (.iload_n 2, 1) := by decide +kernel
theorem dX11_readOrder_101 : decode cX11_readOrder 101 = .ok (.iastore, 1) := by decide +kernel
theorem dX11_readOrder_102 : decode cX11_readOrder 102 = .ok (.aload_n 0, 1) := by decide +kernel
theorem dX11_readOrder_103 : decode cX11_readOrder 103 = .ok (.dup, 1) := by decide +kernel
theorem dX11_readOrder_104 : decode cX11_readOrder 104 = .ok (.getfield 232, 3) := by decide +kernel
theorem dX11_readOrder_107 : decode cX11_readOrder 107 = .ok (.iconst 1, 1) := by decide +kernel
theorem dX11_readOrder_108 : decode cX11_readOrder 108 = .ok (.iadd, 1) := by decide +kernel
theorem dX11_readOrder_109 : decode cX11_readOrder 109 = .ok (.putfield 232, 3) := by decide +kernel
theorem dX11_readOrder_112 : decode cX11_readOrder 112 = .ok (.iconst 1, 1) := by decide +kernel
theorem dX11_readOrder_113 : decode cX11_readOrder 113 = .ok (.ireturn, 1) := by decide +kernel
theorem dX11_readAll_0 : decode cX11_readAll 0 = .ok (.aload_n 0, 1) := by decide +kernel
theorem dX11_readAll_1 : decode cX11_readAll 1 = .ok (.iconst 0, 1) := by decide +kernel
theorem dX11_readAll_2 : decode cX11_readAll 2 = .ok (.putfield 232, 3) := by decide +kernel
theorem dX11_readAll_5 : decode cX11_readAll 5 = .ok (.aload_n 0, 1) := by decide +kernel
theorem dX11_readAll_6 : decode cX11_readAll 6 = .ok (.iconst 0, 1) := by decide +kernel
theorem dX11_readAll_7 : decode cX11_readAll 7 = .ok (.putfield 235, 3) := by decide +kernel
theorem dX11_readAll_10 : decode cX11_readAll 10 = .ok (.aload_n 0, 1) := by decide +kernel
theorem dX11_readAll_11 : decode cX11_readAll 11 = .ok (.getfield 235, 3) := by decide +kernel
theorem dX11_readAll_14 : decode cX11_readAll 14 = .ok (.aload_n 0, 1) := by decide +kernel
theorem dX11_readAll_15 : decode cX11_readAll 15 = .ok (.getfield 85, 3) := by decide +kernel
theorem dX11_readAll_18 : decode cX11_readAll 18 = .ok (.iconst 0, 1) := by decide +kernel
theorem dX11_readAll_19 : decode cX11_readAll 19 = .ok (.iaload, 1) := by decide +kernel
theorem dX11_readAll_20 : decode cX11_readAll 20 = .ok (.if_icmp .ge 105, 3) := by decide +kernel
theorem dX11_readAll_23 : decode cX11_readAll 23 = .ok (.aload_n 0, 1) := by decide +kernel
theorem dX11_readAll_24 : decode cX11_readAll 24 = .ok (.getfield 88, 3) := by decide +kernel
theorem dX11_readAll_27 : decode cX11_readAll 27 = .ok (.aload_n 0, 1) := by decide +kernel
theorem dX11_readAll_28 : decode cX11_readAll 28 = .ok (.getfield 235, 3) := by decide +kernel
theorem dX11_readAll_31 : decode cX11_readAll 31 = .ok (.iaload, 1) := by decide +kernel
theorem dX11_readAll_32 : decode cX11_readAll 32 = .ok (.istore_n 1, 1) := by decide +kernel
theorem dX11_readAll_33 : decode cX11_readAll 33 = .ok (.aload_n 0, 1) := by decide +kernel
theorem dX11_readAll_34 : decode cX11_readAll 34 = .ok (.dup, 1) := by decide +kernel
theorem dX11_readAll_35 : decode cX11_readAll 35 = .ok (.getfield 235, 3) := by decide +kernel
theorem dX11_readAll_38 : decode cX11_readAll 38 = .ok (.iconst 1, 1) := by decide +kernel
theorem dX11_readAll_39 : decode cX11_readAll 39 = .ok (.iadd, 1) := by decide +kernel
theorem dX11_readAll_40 : decode cX11_readAll 40 = .ok (.putfield 235, 3) := by decide +kernel
theorem dX11_readAll_43 : decode cX11_readAll 43 = .ok (.iload_n 1, 1) := by decide +kernel
theorem dX11_readAll_44 : decode cX11_readAll 44 = .ok (.bipush 16, 2) := by decide +kernel
theorem dX11_readAll_46 : decode cX11_readAll 46 = .ok (.isub, 1) := by decide +kernel
theorem dX11_readAll_47 : decode cX11_readAll 47 = .ok (.istore_n 2, 1) := by decide +kernel
theorem dX11_readAll_48 : decode cX11_readAll 48 = .ok (.iload_n 2, 1) := by decide +kernel
theorem dX11_readAll_49 : decode cX11_readAll 49 = .ok (.aload_n 0, 1) := by decide +kernel
theorem dX11_readAll_50 : decode cX11_readAll 50 = .ok (.getfield 25, 3) := by decide +kernel
theorem dX11_readAll_53 : decode cX11_readAll 53 = .ok (.iconst 0, 1) := by decide +kernel
theorem dX11_readAll_54 : decode cX11_readAll 54 = .ok (.iaload, 1) := by decide +kernel
theorem dX11_readAll_55 : decode cX11_readAll 55 = .ok (.if_icmp .lt 5, 3) := by decide +kernel
theorem dX11_readAll_58 : decode cX11_readAll 58 = .ok (.iconst 0, 1) := by decide +kernel
theorem dX11_readAll_59 : decode cX11_readAll 59 = .ok (.ireturn, 1) := by decide +kernel
theorem dX11_readAll_60 : decode cX11_readAll 60 = .ok (.iload_n 2, 1) := by decide +kernel
theorem dX11_readAll_61 : decode cX11_readAll 61 = .ok (.ifCond .ge 7, 3) := by decide +kernel
theorem dX11_readAll_64 : decode cX11_readAll 64 = .ok (.iconst 1, 1) := by decide +kernel
theorem dX11_readAll_65 : decode cX11_readAll 65 = .ok (.goto 11, 3) := by decide +kernel
theorem dX11_readAll_68 : decode cX11_readAll 68 = .ok (.aload_n 0, 1) := by decide +kernel
theorem dX11_readAll_69 : decode cX11_readAll 69 = .ok (.getfield 28, 3) := by decide +kernel
theorem dX11_readAll_72 : decode cX11_readAll 72 = .ok (.iconst 5, 1) := by decide +kernel
theorem dX11_readAll_73 : decode cX11_readAll 73 = .ok (.iload_n 2, 1) := by decide +kernel
theorem dX11_readAll_74 : decode cX11_readAll 74 = .ok (.imul, 1) := by decide +kernel
theorem dX11_readAll_75 : decode cX11_readAll 75 = .ok (.iaload, 1) := by decide +kernel
theorem dX11_readAll_76 : decode cX11_readAll 76 = .ok (.istore_n 3, 1) := by decide +kernel
theorem dX11_readAll_77 : decode cX11_readAll 77 = .ok (.iconst 0, 1) := by decide +kernel
theorem dX11_readAll_78 : decode cX11_readAll 78 = .ok (.istore 4, 2) := by decide +kernel
theorem dX11_readAll_80 : decode cX11_readAll 80 = .ok (.iload 4, 2) := by decide +kernel
theorem dX11_readAll_82 : decode cX11_readAll 82 = .ok (.iload_n 3, 1) := by decide +kernel
theorem dX11_readAll_83 : decode cX11_readAll 83 = .ok (.if_icmp .ge 39, 3) := by decide +kernel
theorem dX11_readAll_86 : decode cX11_readAll 86 = .ok (.aload_n 0, 1) := by decide +kernel
theorem dX11_readAll_87 : decode cX11_readAll 87 = .ok (.iload_n 2, 1) := by decide +kernel
theorem dX11_readAll_88 : decode cX11_readAll 88 = .ok (.ifCond .ge 7, 3) := by decide +kernel
theorem dX11_readAll_91 : decode cX11_readAll 91 = .ok (.iload_n 1, 1) := by decide +kernel
theorem dX11_readAll_92 : decode cX11_readAll 92 = .ok (.goto 16, 3) := by decide +kernel
theorem dX11_readAll_95 : decode cX11_readAll 95 = .ok (.aload_n 0, 1) := by decide +kernel
theorem dX11_readAll_96 : decode cX11_readAll 96 = .ok (.getfield 28, 3) := by decide +kernel
theorem dX11_readAll_99 : decode cX11_readAll 99 = .ok (.iconst 5, 1) := by decide +kernel
theorem dX11_readAll_100 : decode cX11_readAll 100 = .ok (.iload_n 2, 1) := by decide +kernel
theorem dX11_readAll_101 : decode cX11_readAll 101 = .ok (.imul, 1) := by decide +kernel
theorem dX11_readAll_102 : decode cX11_readAll 102 = .ok (.iconst 1, 1) := by decide +kernel
theorem dX11_readAll_103 : decode cX11_readAll 103 = .ok (.iadd, 1) := by decide +kernel
theorem dX11_readAll_104 : decode cX11_readAll 104 = .ok (.iload 4, 2) := by decide +kernel
theorem dX11_readAll_106 : decode cX11_readAll 106 = .ok (.iadd, 1) := by decide +kernel
theorem dX11_readAll_107 : decode cX11_readAll 107 = .ok (.iaload, 1) := by decide +kernel
theorem dX11_readAll_108 : decode cX11_readAll 108 = .ok (.invokevirtual 238, 3) := by decide +kernel
theorem dX11_readAll_111 : decode cX11_readAll 111 = .ok (.ifCond .ne 5, 3) := by decide +kernel
theorem dX11_readAll_114 : decode cX11_readAll 114 = .ok (.iconst 0, 1) := by decide +kernel
theorem dX11_readAll_115 : decode cX11_readAll 115 = .ok (.ireturn, 1) := by decide +kernel
theorem dX11_readAll_116 : decode cX11_readAll 116 = .ok (.iinc 4 1, 3) := by decide +kernel
theorem dX11_readAll_119 : decode cX11_readAll 119 = .ok (.goto (-39), 3) := by decide +kernel
theorem dX11_readAll_122 : decode cX11_readAll 122 = .ok (.goto (-112), 3) := by decide +kernel
theorem dX11_readAll_125 : decode cX11_readAll 125 = .ok (.iconst 1, 1) := by decide +kernel
theorem dX11_readAll_126 : decode cX11_readAll 126 = .ok (.ireturn, 1) := by decide +kernel
theorem dX11_read_0 : decode cX11_read 0 = .ok (.aload_n 0, 1) := by decide +kernel
theorem dX11_read_1 : decode cX11_read 1 = .ok (.iconst 0, 1) := by decide +kernel
theorem dX11_read_2 : decode cX11_read 2 = .ok (.putfield 134, 3) := by decide +kernel
theorem dX11_read_5 : decode cX11_read 5 = .ok (.aload_n 0, 1) := by decide +kernel
theorem dX11_read_6 : decode cX11_read 6 = .ok (.getfield 7, 3) := by decide +kernel
theorem dX11_read_9 : decode cX11_read 9 = .ok (.iconst 0, 1) := by decide +kernel
theorem dX11_read_10 : decode cX11_read 10 = .ok (.iaload, 1) := by decide +kernel
theorem dX11_read_11 : decode cX11_read 11 = .ok (.iconst 3, 1) := by decide +kernel
theorem dX11_read_12 : decode cX11_read 12 = .ok (.if_icmp .eq 10, 3) := by decide +kernel
theorem dX11_read_15 : decode cX11_read 15 = .ok (.aload_n 0, 1) := by decide +kernel
theorem dX11_read_16 : decode cX11_read 16 = .ok (.invokevirtual 241, 3) := by decide +kernel
theorem dX11_read_19 : decode cX11_read 19 = .ok (.ifCond .ne 5, 3) := by decide +kernel
theorem dX11_read_22 : decode cX11_read 22 = .ok (.iconst (-1), 1) := by decide +kernel
theorem dX11_read_23 : decode cX11_read 23 = .ok (.ireturn, 1) := by decide +kernel
theorem dX11_read_24 : decode cX11_read 24 = .ok (.aload_n 0, 1) := by decide +kernel
theorem dX11_read_25 : decode cX11_read 25 = .ok (.getfield 7, 3) := by decide +kernel
theorem dX11_read_28 : decode cX11_read 28 = .ok (.iconst 0, 1) := by decide +kernel
theorem dX11_read_29 : decode cX11_read 29 = .ok (.iaload, 1) := by decide +kernel
theorem dX11_read_30 : decode cX11_read 30 = .ok (.istore_n 1, 1) := by decide +kernel
theorem dX11_read_31 : decode cX11_read 31 = .ok (.aload_n 0, 1) := by decide +kernel
theorem dX11_read_32 : decode cX11_read 32 = .ok (.getfield 7, 3) := by decide +kernel
theorem dX11_read_35 : decode cX11_read 35 = .ok (.iconst 0, 1) := by decide +kernel
theorem dX11_read_36 : decode cX11_read 36 = .ok (.dup2, 1) := by decide +kernel
theorem dX11_read_37 : decode cX11_read 37 = .ok (.iaload, 1) := by decide +kernel
theorem dX11_read_38 : decode cX11_read 38 = .ok (.iconst 1, 1) := by decide +kernel
theorem dX11_read_39 : decode cX11_read 39 = .ok (.iadd, 1) := by decide +kernel
theorem dX11_read_40 : decode cX11_read 40 = .ok (.iastore, 1) := by decide +kernel
theorem dX11_read_41 : decode cX11_read 41 = .ok (.aload_n 0, 1) := by decide +kernel
theorem dX11_read_42 : decode cX11_read 42 = .ok (.getfield 13, 3) := by decide +kernel
theorem dX11_read_45 : decode cX11_read 45 = .ok (.iload_n 1, 1) := by decide +kernel
theorem dX11_read_46 : decode cX11_read 46 = .ok (.aload_n 0, 1) := by decide +kernel
theorem dX11_read_47 : decode cX11_read 47 = .ok (.getfield 232, 3) := by decide +kernel
theorem dX11_read_50 : decode cX11_read 50 = .ok (.iastore, 1) := by decide +kernel
theorem dX11_read_51 : decode cX11_read 51 = .ok (.aload_n 0, 1) := by decide +kernel
theorem dX11_read_52 : decode cX11_read 52 = .ok (.iload_n 1, 1) := by decide +kernel
theorem dX11_read_53 : decode cX11_read 53 = .ok (.invokevirtual 146, 3) := by decide +kernel
theorem dX11_read_56 : decode cX11_read 56 = .ok (.iconst 0, 1) := by decide +kernel
theorem dX11_read_57 : decode cX11_read 57 = .ok (.istore_n 2, 1) := by decide +kernel
theorem dX11_read_58 : decode cX11_read 58 = .ok (.iload_n 2, 1) := by decide +kernel
theorem dX11_read_59 : decode cX11_read 59 = .ok (.aload_n 0, 1) := by decide +kernel
theorem dX11_read_60 : decode cX11_read 60 = .ok (.getfield 232, 3) := by decide +kernel
theorem dX11_read_63 : decode cX11_read 63 = .ok (.if_icmp .ge 43, 3) := by decide +kernel
theorem dX11_read_66 : decode cX11_read 66 = .ok (.aload_n 0, 1) := by decide +kernel
theorem dX11_read_67 : decode cX11_read 67 = .ok (.getfield 16, 3) := by decide +kernel
theorem dX11_read_70 : decode cX11_read 70 = .ok (.bipush 40, 2) := by decide +kernel
theorem dX11_read_72 : decode cX11_read 72 = .ok (.iload_n 1, 1) := by decide +kernel
theorem dX11_read_73 : decode cX11_read 73 = .ok (.imul, 1) := by decide +kernel
theorem dX11_read_74 : decode cX11_read 74 = .ok (.iload_n 2, 1) := by decide +kernel
theorem dX11_read_75 : decode cX11_read 75 = .ok (.iadd, 1) := by decide +kernel
theorem dX11_read_76 : decode cX11_read 76 = .ok (.aload_n 0, 1) := by decide +kernel
theorem dX11_read_77 : decode cX11_read 77 = .ok (.getfield 125, 3) := by decide +kernel
theorem dX11_read_80 : decode cX11_read 80 = .ok (.iload_n 2, 1) := by decide +kernel
theorem dX11_read_81 : decode cX11_read 81 = .ok (.iaload, 1) := by decide +kernel
theorem dX11_read_82 : decode cX11_read 82 = .ok (.iastore, 1) := by decide +kernel
theorem dX11_read_83 : decode cX11_read 83 = .ok (.aload_n 0, 1) := by decide +kernel
theorem dX11_read_84 : decode cX11_read 84 = .ok (.getfield 19, 3) := by decide +kernel
theorem dX11_read_87 : decode cX11_read 87 = .ok (.bipush 40, 2) := by decide +kernel
theorem dX11_read_89 : decode cX11_read 89 = .ok (.iload_n 1, 1) := by decide +kernel
theorem dX11_read_90 : decode cX11_read 90 = .ok (.imul, 1) := by decide +kernel
theorem dX11_read_91 : decode cX11_read 91 = .ok (.iload_n 2, 1) := by decide +kernel
theorem dX11_read_92 : decode cX11_read 92 = .ok (.iadd, 1) := by decide +kernel
theorem dX11_read_93 : decode cX11_read 93 = .ok (.aload_n 0, 1) := by decide +kernel
theorem dX11_read_94 : decode cX11_read 94 = .ok (.getfield 128, 3) := by decide +kernel
theorem dX11_read_97 : decode cX11_read 97 = .ok (.iload_n 2, 1) := by decide +kernel
theorem dX11_read_98 : decode cX11_read 98 = .ok (.iaload, 1) := by decide +kernel
theorem dX11_read_99 : decode cX11_read 99 = .ok (.iastore, 1) := by decide +kernel
theorem dX11_read_100 : decode cX11_read 100 = .ok (.iinc 2 1, 3) := by decide +kernel
theorem dX11_read_103 : decode cX11_read 103 = .ok (.goto (-45), 3) := by decide +kernel
theorem dX11_read_106 : decode cX11_read 106 = .ok (.aload_n 0, 1) := by decide +kernel
theorem dX11_read_107 : decode cX11_read 107 = .ok (.getfield 85, 3) := by decide +kernel
theorem dX11_read_110 : decode cX11_read 110 = .ok (.iconst 0, 1) := by decide +kernel
theorem dX11_read_111 : decode cX11_read 111 = .ok (.iconst 0, 1) := by decide +kernel
theorem dX11_read_112 : decode cX11_read 112 = .ok (.iastore, 1) := by decide +kernel
theorem dX11_read_113 : decode cX11_read 113 = .ok (.iload_n 1, 1) := by decide +kernel
theorem dX11_read_114 : decode cX11_read 114 = .ok (.ireturn, 1) := by decide +kernel
theorem dX11_count_0 : decode cX11_count 0 = .ok (.aload_n 0, 1) := by decide +kernel
theorem dX11_count_1 : decode cX11_count 1 = .ok (.iconst 0, 1) := by decide +kernel
theorem dX11_count_2 : decode cX11_count 2 = .ok (.putfield 134, 3) := by decide +kernel
theorem dX11_count_5 : decode cX11_count 5 = .ok (.iload_n 1, 1) := by decide +kernel
theorem dX11_count_6 : decode cX11_count 6 = .ok (.tableswitch 108 0 5 #[38, 45, 52, 59, 80, 101], 38) := by decide +kernel
theorem dX11_count_44 : decode cX11_count 44 = .ok (.aload_n 0, 1) := by decide +kernel
theorem dX11_count_45 : decode cX11_count 45 = .ok (.getfield 7, 3) := by decide +kernel
theorem dX11_count_48 : decode cX11_count 48 = .ok (.iconst 0, 1) := by decide +kernel
theorem dX11_count_49 : decode cX11_count 49 = .ok (.iaload, 1) := by decide +kernel
theorem dX11_count_50 : decode cX11_count 50 = .ok (.ireturn, 1) := by decide +kernel
theorem dX11_count_51 : decode cX11_count 51 = .ok (.aload_n 0, 1) := by decide +kernel
theorem dX11_count_52 : decode cX11_count 52 = .ok (.getfield 25, 3) := by decide +kernel
theorem dX11_count_55 : decode cX11_count 55 = .ok (.iconst 0, 1) := by decide +kernel
theorem dX11_count_56 : decode cX11_count 56 = .ok (.iaload, 1) := by decide +kernel
theorem dX11_count_57 : decode cX11_count 57 = .ok (.ireturn, 1) := by decide +kernel
theorem dX11_count_58 : decode cX11_count 58 = .ok (.aload_n 0, 1) := by decide +kernel
theorem dX11_count_59 : decode cX11_count 59 = .ok (.getfield 40, 3) := by decide +kernel
theorem dX11_count_62 : decode cX11_count 62 = .ok (.iconst 0, 1) := by decide +kernel
theorem dX11_count_63 : decode cX11_count 63 = .ok (.iaload, 1) := by decide +kernel
theorem dX11_count_64 : decode cX11_count 64 = .ok (.ireturn, 1) := by decide +kernel
theorem dX11_count_65 : decode cX11_count 65 = .ok (.aload_n 0, 1) := by decide +kernel
theorem dX11_count_66 : decode cX11_count 66 = .ok (.getfield 40, 3) := by decide +kernel
theorem dX11_count_69 : decode cX11_count 69 = .ok (.iconst 0, 1) := by decide +kernel
theorem dX11_count_70 : decode cX11_count 70 = .ok (.iaload, 1) := by decide +kernel
theorem dX11_count_71 : decode cX11_count 71 = .ok (.iconst (-1), 1) := by decide +kernel
theorem dX11_count_72 : decode cX11_count 72 = .ok (.if_icmp .ne 7, 3) := by decide +kernel
theorem dX11_count_75 : decode cX11_count 75 = .ok (.iconst (-1), 1) := by decide +kernel
theorem dX11_count_76 : decode cX11_count 76 = .ok (.goto 9, 3) := by decide +kernel
theorem dX11_count_79 : decode cX11_count 79 = .ok (.aload_n 0, 1) := by decide +kernel
theorem dX11_count_80 : decode cX11_count 80 = .ok (.getfield 46, 3) := by decide +kernel
theorem dX11_count_83 : decode cX11_count 83 = .ok (.iconst 0, 1) := by decide +kernel
theorem dX11_count_84 : decode cX11_count 84 = .ok (.iaload, 1) := by decide +kernel
theorem dX11_count_85 : decode cX11_count 85 = .ok (.ireturn, 1) := by decide +kernel
theorem dX11_count_86 : decode cX11_count 86 = .ok (.aload_n 0, 1) := by decide +kernel
theorem dX11_count_87 : decode cX11_count 87 = .ok (.getfield 79, 3) := by decide +kernel
theorem dX11_count_90 : decode cX11_count 90 = .ok (.iconst 0, 1) := by decide +kernel
theorem dX11_count_91 : decode cX11_count 91 = .ok (.iaload, 1) := by decide +kernel
theorem dX11_count_92 : decode cX11_count 92 = .ok (.iconst (-1), 1) := by decide +kernel
theorem dX11_count_93 : decode cX11_count 93 = .ok (.if_icmp .ne 7, 3) := by decide +kernel
theorem dX11_count_96 : decode cX11_count 96 = .ok (.iconst 0, 1) := by decide +kernel
theorem dX11_count_97 : decode cX11_count 97 = .ok (.goto 9, 3) := by decide +kernel
theorem dX11_count_100 : decode cX11_count 100 = .ok (.aload_n 0, 1) := by decide +kernel
theorem dX11_count_101 : decode cX11_count 101 = .ok (.getfield 79, 3) := by decide +kernel
theorem dX11_count_104 : decode cX11_count 104 = .ok (.iconst 0, 1) := by decide +kernel
theorem dX11_count_105 : decode cX11_count 105 = .ok (.iaload, 1) := by decide +kernel
theorem dX11_count_106 : decode cX11_count 106 = .ok (.ireturn, 1) := by decide +kernel
theorem dX11_count_107 : decode cX11_count 107 = .ok (.aload_n 0, 1) := by decide +kernel
theorem dX11_count_108 : decode cX11_count 108 = .ok (.getfield 85, 3) := by decide +kernel
theorem dX11_count_111 : decode cX11_count 111 = .ok (.iconst 0, 1) := by decide +kernel
theorem dX11_count_112 : decode cX11_count 112 = .ok (.iaload, 1) := by decide +kernel
theorem dX11_count_113 : decode cX11_count 113 = .ok (.ireturn, 1) := by decide +kernel
theorem dX11_count_114 : decode cX11_count 114 = .ok (.iload_n 1, 1) := by decide +kernel
theorem dX11_count_115 : decode cX11_count 115 = .ok (.bipush 10, 2) := by decide +kernel
theorem dX11_count_117 : decode cX11_count 117 = .ok (.bipush 9, 2) := by decide +kernel
theorem dX11_count_119 : decode cX11_count 119 = .ok (.aload_n 0, 1) := by decide +kernel
theorem dX11_count_120 : decode cX11_count 120 = .ok (.getfield 7, 3) := by decide +kernel
theorem dX11_count_123 : decode cX11_count 123 = .ok (.iconst 0, 1) := by decide +kernel
theorem dX11_count_124 : decode cX11_count 124 = .ok (.iaload, 1) := by decide +kernel
theorem dX11_count_125 : decode cX11_count 125 = .ok (.iadd, 1) := by decide +kernel
theorem dX11_count_126 : decode cX11_count 126 = .ok (.invokestatic 142, 3) := by decide +kernel
theorem dX11_count_129 : decode cX11_count 129 = .ok (.ifCond .eq 15, 3) := by decide +kernel
theorem dX11_count_132 : decode cX11_count 132 = .ok (.aload_n 0, 1) := by decide +kernel
theorem dX11_count_133 : decode cX11_count 133 = .ok (.getfield 13, 3) := by decide +kernel
theorem dX11_count_136 : decode cX11_count 136 = .ok (.iload_n 1, 1) := by decide +kernel
theorem dX11_count_137 : decode cX11_count 137 = .ok (.bipush 10, 2) := by decide +kernel
theorem dX11_count_139 : decode cX11_count 139 = .ok (.isub, 1) := by decide +kernel
theorem dX11_count_140 : decode cX11_count 140 = .ok (.iaload, 1) := by decide +kernel
theorem dX11_count_141 : decode cX11_count 141 = .ok (.goto 4, 3) := by decide +kernel
theorem dX11_count_144 : decode cX11_count 144 = .ok (.iconst (-1), 1) := by decide +kernel
theorem dX11_count_145 : decode cX11_count 145 = .ok (.ireturn, 1) := by decide +kernel
theorem dX11_image_0 : decode cX11_image 0 = .ok (.aload_n 0, 1) := by decide +kernel
theorem dX11_image_1 : decode cX11_image 1 = .ok (.iconst 0, 1) := by decide +kernel
theorem dX11_image_2 : decode cX11_image 2 = .ok (.putfield 134, 3) := by decide +kernel
theorem dX11_image_5 : decode cX11_image 5 = .ok (.iload_n 1, 1) := by decide +kernel
theorem dX11_image_6 : decode cX11_image 6 = .ok (.iconst 0, 1) := by decide +kernel
theorem dX11_image_7 : decode cX11_image 7 = .ok (.iconst 2, 1) := by decide +kernel
theorem dX11_image_8 : decode cX11_image 8 = .ok (.invokestatic 142, 3) := by decide +kernel
theorem dX11_image_11 : decode cX11_image 11 = .ok (.ifCond .ne 5, 3) := by decide +kernel
theorem dX11_image_14 : decode cX11_image 14 = .ok (.iconst 0, 1) := by decide +kernel
theorem dX11_image_15 : decode cX11_image 15 = .ok (.ireturn, 1) := by decide +kernel
theorem dX11_image_16 : decode cX11_image 16 = .ok (.aload_n 0, 1) := by decide +kernel
theorem dX11_image_17 : decode cX11_image 17 = .ok (.iconst 0, 1) := by decide +kernel
theorem dX11_image_18 : decode cX11_image 18 = .ok (.iload_n 1, 1) := by decide +kernel
theorem dX11_image_19 : decode cX11_image 19 = .ok (.iconst 1, 1) := by decide +kernel
theorem dX11_image_20 : decode cX11_image 20 = .ok (.iadd, 1) := by decide +kernel
theorem dX11_image_21 : decode cX11_image 21 = .ok (.invokevirtual 245, 3) := by decide +kernel
theorem dX11_image_24 : decode cX11_image 24 = .ok (.aload_n 0, 1) := by decide +kernel
theorem dX11_image_25 : decode cX11_image 25 = .ok (.getfield 131, 3) := by decide +kernel
theorem dX11_image_28 : decode cX11_image 28 = .ok (.iload_n 1, 1) := by decide +kernel
theorem dX11_image_29 : decode cX11_image 29 = .ok (.iconst 1, 1) := by decide +kernel
theorem dX11_image_30 : decode cX11_image 30 = .ok (.bastore, 1) := by decide +kernel
theorem dX11_image_31 : decode cX11_image 31 = .ok (.iconst 1, 1) := by decide +kernel
theorem dX11_image_32 : decode cX11_image 32 = .ok (.ireturn, 1) := by decide +kernel
theorem dX11_again_0 : decode cX11_again 0 = .ok (.aload_n 0, 1) := by decide +kernel
theorem dX11_again_1 : decode cX11_again 1 = .ok (.iconst 0, 1) := by decide +kernel
theorem dX11_again_2 : decode cX11_again 2 = .ok (.putfield 134, 3) := by decide +kernel
theorem dX11_again_5 : decode cX11_again 5 = .ok (.iload_n 1, 1) := by decide +kernel
theorem dX11_again_6 : decode cX11_again 6 = .ok (.iconst 0, 1) := by decide +kernel
theorem dX11_again_7 : decode cX11_again 7 = .ok (.iconst 2, 1) := by decide +kernel
theorem dX11_again_8 : decode cX11_again 8 = .ok (.invokestatic 142, 3) := by decide +kernel
theorem dX11_again_11 : decode cX11_again 11 = .ok (.ifCond .eq 12, 3) := by decide +kernel
theorem dX11_again_14 : decode cX11_again 14 = .ok (.aload_n 0, 1) := by decide +kernel
theorem dX11_again_15 : decode cX11_again 15 = .ok (.getfield 131, 3) := by decide +kernel
theorem dX11_again_18 : decode cX11_again 18 = .ok (.iload_n 1, 1) := by decide +kernel
theorem dX11_again_19 : decode cX11_again 19 = .ok (.baload, 1) := by decide +kernel
theorem dX11_again_20 : decode cX11_again 20 = .ok (.ifCond .ne 5, 3) := by decide +kernel
theorem dX11_again_23 : decode cX11_again 23 = .ok (.iconst 0, 1) := by decide +kernel
theorem dX11_again_24 : decode cX11_again 24 = .ok (.ireturn, 1) := by decide +kernel
theorem dX11_again_25 : decode cX11_again 25 = .ok (.aload_n 0, 1) := by decide +kernel
theorem dX11_again_26 : decode cX11_again 26 = .ok (.iload_n 1, 1) := by decide +kernel
theorem dX11_again_27 : decode cX11_again 27 = .ok (.iconst 1, 1) := by decide +kernel
theorem dX11_again_28 : decode cX11_again 28 = .ok (.iadd, 1) := by decide +kernel
theorem dX11_again_29 : decode cX11_again 29 = .ok (.iconst 0, 1) := by decide +kernel
theorem dX11_again_30 : decode cX11_again 30 = .ok (.invokevirtual 245, 3) := by decide +kernel
theorem dX11_again_33 : decode cX11_again 33 = .ok (.iconst 1, 1) := by decide +kernel
theorem dX11_again_34 : decode cX11_again 34 = .ok (.ireturn, 1) := by decide +kernel
end
section
/-! how the bytes of each method read -/
theorem dX0_init_0 : decode cX0_init 0 = .ok (.aload_n 0, 1) := by decide +kernel
theorem dX0_init_1 : decode cX0_init 1 = .ok (.invokespecial 7, 3) := by decide +kernel
theorem dX0_init_4 : decode cX0_init 4 = .ok (.aload_n 0, 1) := by decide +kernel
theorem dX0_init_5 : decode cX0_init 5 = .ok (.sipush 360, 3) := by decide +kernel
theorem dX0_init_8 : decode cX0_init 8 = .ok (.newarray .int, 2) := by decide +kernel
theorem dX0_init_10 : decode cX0_init 10 = .ok (.putfield 15, 3) := by decide +kernel
theorem dX0_init_13 : decode cX0_init 13 = .ok (.aload_n 0, 1) := by decide +kernel
theorem dX0_init_14 : decode cX0_init 14 = .ok (.sipush 360, 3) := by decide +kernel
theorem dX0_init_17 : decode cX0_init 17 = .ok (.newarray .int, 2) := by decide +kernel
theorem dX0_init_19 : decode cX0_init 19 = .ok (.putfield 19, 3) := by decide +kernel
theorem dX0_init_22 : decode cX0_init 22 = .ok (.aload_n 0, 1) := by decide +kernel
theorem dX0_init_23 : decode cX0_init 23 = .ok (.sipush 360, 3) := by decide +kernel
theorem dX0_init_26 : decode cX0_init 26 = .ok (.newarray .int, 2) := by decide +kernel
theorem dX0_init_28 : decode cX0_init 28 = .ok (.putfield 22, 3) := by decide +kernel
theorem dX0_init_31 : decode cX0_init 31 = .ok (.aload_n 0, 1) := by decide +kernel
theorem dX0_init_32 : decode cX0_init 32 = .ok (.sipush 361, 3) := by decide +kernel
theorem dX0_init_35 : decode cX0_init 35 = .ok (.newarray .int, 2) := by decide +kernel
theorem dX0_init_37 : decode cX0_init 37 = .ok (.putfield 25, 3) := by decide +kernel
theorem dX0_init_40 : decode cX0_init 40 = .ok (.aload_n 0, 1) := by decide +kernel
theorem dX0_init_41 : decode cX0_init 41 = .ok (.sipush 360, 3) := by decide +kernel
theorem dX0_init_44 : decode cX0_init 44 = .ok (.newarray .int, 2) := by decide +kernel
theorem dX0_init_46 : decode cX0_init 46 = .ok (.putfield 28, 3) := by decide +kernel
theorem dX0_init_49 : decode cX0_init 49 = .ok (.aload_n 0, 1) := by decide +kernel
theorem dX0_init_50 : decode cX0_init 50 = .ok (.sipush 360, 3) := by decide +kernel
theorem dX0_init_53 : decode cX0_init 53 = .ok (.newarray .int, 2) := by decide +kernel
theorem dX0_init_55 : decode cX0_init 55 = .ok (.putfield 31, 3) := by decide +kernel
theorem dX0_init_58 : decode cX0_init 58 = .ok (.aload_n 0, 1) := by decide +kernel
theorem dX0_init_59 : decode cX0_init 59 = .ok (.sipush 360, 3) := by decide +kernel
theorem dX0_init_62 : decode cX0_init 62 = .ok (.newarray .int, 2) := by decide +kernel
theorem dX0_init_64 : decode cX0_init 64 = .ok (.putfield 34, 3) := by decide +kernel
theorem dX0_init_67 : decode cX0_init 67 = .ok (.aload_n 0, 1) := by decide +kernel
theorem dX0_init_68 : decode cX0_init 68 = .ok (.sipush 360, 3) := by decide +kernel
theorem dX0_init_71 : decode cX0_init 71 = .ok (.newarray .int, 2) := by decide +kernel
theorem dX0_init_73 : decode cX0_init 73 = .ok (.putfield 37, 3) := by decide +kernel
theorem dX0_init_76 : decode cX0_init 76 = .ok (.aload_n 0, 1) := by decide +kernel
theorem dX0_init_77 : decode cX0_init 77 = .ok (.sipush 360, 3) := by decide +kernel
theorem dX0_init_80 : decode cX0_init 80 = .ok (.newarray .int, 2) := by decide +kernel
theorem dX0_init_82 : decode cX0_init 82 = .ok (.putfield 40, 3) := by decide +kernel
theorem dX0_init_85 : decode cX0_init 85 = .ok (.aload_n 0, 1) := by decide +kernel
theorem dX0_init_86 : decode cX0_init 86 = .ok (.sipush 360, 3) := by decide +kernel
theorem dX0_init_89 : decode cX0_init 89 = .ok (.newarray .int, 2) := by decide +kernel
theorem dX0_init_91 : decode cX0_init 91 = .ok (.putfield 43, 3) := by decide +kernel
theorem dX0_init_94 : decode cX0_init 94 = .ok (.return_, 1) := by decide +kernel
theorem dX0_search_0 : decode cX0_search 0 = .ok (.aload_n 0, 1) := by decide +kernel
theorem dX0_search_1 : decode cX0_search 1 = .ok (.aload_n 1, 1) := by decide +kernel
theorem dX0_search_2 : decode cX0_search 2 = .ok (.iload_n 3, 1) := by decide +kernel
theorem dX0_search_3 : decode cX0_search 3 = .ok (.invokevirtual 46, 3) := by decide +kernel
theorem dX0_search_6 : decode cX0_search 6 = .ok (.istore 4, 2) := by decide +kernel
theorem dX0_search_8 : decode cX0_search 8 = .ok (.aload_n 0, 1) := by decide +kernel
theorem dX0_search_9 : decode cX0_search 9 = .ok (.invokevirtual 50, 3) := by decide +kernel
theorem dX0_search_12 : decode cX0_search 12 = .ok (.iload_n 2, 1) := by decide +kernel
theorem dX0_search_13 : decode cX0_search 13 = .ok (.iconst 1, 1) := by decide +kernel
theorem dX0_search_14 : decode cX0_search 14 = .ok (.if_icmp .le 7, 3) := by decide +kernel
theorem dX0_search_17 : decode cX0_search 17 = .ok (.aload_n 0, 1) := by decide +kernel
theorem dX0_search_18 : decode cX0_search 18 = .ok (.invokevirtual 53, 3) := by decide +kernel
theorem dX0_search_21 : decode cX0_search 21 = .ok (.aload_n 1, 1) := by decide +kernel
theorem dX0_search_22 : decode cX0_search 22 = .ok (.getfield 56, 3) := by decide +kernel
theorem dX0_search_25 : decode cX0_search 25 = .ok (.iconst 0, 1) := by decide +kernel
theorem dX0_search_26 : decode cX0_search 26 = .ok (.putfield 60, 3) := by decide +kernel
theorem dX0_search_29 : decode cX0_search 29 = .ok (.aload_n 0, 1) := by decide +kernel
theorem dX0_search_30 : decode cX0_search 30 = .ok (.getfield 66, 3) := by decide +kernel
theorem dX0_search_33 : decode cX0_search 33 = .ok (.iconst (-1), 1) := by decide +kernel
theorem dX0_search_34 : decode cX0_search 34 = .ok (.if_icmp .eq 20, 3) := by decide +kernel
theorem dX0_search_37 : decode cX0_search 37 = .ok (.aload_n 1, 1) := by decide +kernel
theorem dX0_search_38 : decode cX0_search 38 = .ok (.getfield 56, 3) := by decide +kernel
theorem dX0_search_41 : decode cX0_search 41 = .ok (.aload_n 0, 1) := by decide +kernel
theorem dX0_search_42 : decode cX0_search 42 = .ok (.getfield 15, 3) := by decide +kernel
theorem dX0_search_45 : decode cX0_search 45 = .ok (.aload_n 0, 1) := by decide +kernel
theorem dX0_search_46 : decode cX0_search 46 = .ok (.getfield 66, 3) := by decide +kernel
theorem dX0_search_49 : decode cX0_search 49 = .ok (.iaload, 1) := by decide +kernel
theorem dX0_search_50 : decode cX0_search 50 = .ok (.invokevirtual 69, 3) := by decide +kernel
theorem dX0_search_53 : decode cX0_search 53 = .ok (.pop, 1) := by decide +kernel
theorem dX0_search_54 : decode cX0_search 54 = .ok (.aload_n 0, 1) := by decide +kernel
theorem dX0_search_55 : decode cX0_search 55 = .ok (.getfield 73, 3) := by decide +kernel
theorem dX0_search_58 : decode cX0_search 58 = .ok (.iconst (-1), 1) := by decide +kernel
theorem dX0_search_59 : decode cX0_search 59 = .ok (.if_icmp .eq 20, 3) := by decide +kernel
theorem dX0_search_62 : decode cX0_search 62 = .ok (.aload_n 1, 1) := by decide +kernel
theorem dX0_search_63 : decode cX0_search 63 = .ok (.getfield 56, 3) := by decide +kernel
theorem dX0_search_66 : decode cX0_search 66 = .ok (.aload_n 0, 1) := by decide +kernel
theorem dX0_search_67 : decode cX0_search 67 = .ok (.getfield 15, 3) := by decide +kernel
theorem dX0_search_70 : decode cX0_search 70 = .ok (.aload_n 0, 1) := by decide +kernel
theorem dX0_search_71 : decode cX0_search 71 = .ok (.getfield 73, 3) := by decide +kernel
theorem dX0_search_74 : decode cX0_search 74 = .ok (.iaload, 1) := by decide +kernel
theorem dX0_search_75 : decode cX0_search 75 = .ok (.invokevirtual 69, 3) := by decide +kernel
theorem dX0_search_78 : decode cX0_search 78 = .ok (.pop, 1) := by decide +kernel
theorem dX0_search_79 : decode cX0_search 79 = .ok (.iload 4, 2) := by decide +kernel
theorem dX0_search_81 : decode cX0_search 81 = .ok (.aload_n 0, 1) := by decide +kernel
theorem dX0_search_82 : decode cX0_search 82 = .ok (.getfield 76, 3) := by decide +kernel
theorem dX0_search_85 : decode cX0_search 85 = .ok (.isub, 1) := by decide +kernel
theorem dX0_search_86 : decode cX0_search 86 = .ok (.ireturn, 1) := by decide +kernel
theorem dX0_gather_0 : decode cX0_gather 0 = .ok (.aload_n 0, 1) := by decide +kernel
theorem dX0_gather_1 : decode cX0_gather 1 = .ok (.iconst 0, 1) := by decide +kernel
theorem dX0_gather_2 : decode cX0_gather 2 = .ok (.putfield 79, 3) := by decide +kernel
theorem dX0_gather_5 : decode cX0_gather 5 = .ok (.aload_n 0, 1) := by decide +kernel
theorem dX0_gather_6 : decode cX0_gather 6 = .ok (.iconst 0, 1) := by decide +kernel
theorem dX0_gather_7 : decode cX0_gather 7 = .ok (.putfield 82, 3) := by decide +kernel
theorem dX0_gather_10 : decode cX0_gather 10 = .ok (.iconst 0, 1) := by decide +kernel
theorem dX0_gather_11 : decode cX0_gather 11 = .ok (.istore_n 3, 1) := by decide +kernel
theorem dX0_gather_12 : decode cX0_gather 12 = .ok (.iconst 0, 1) := by decide +kernel
theorem dX0_gather_13 : decode cX0_gather 13 = .ok (.istore 4, 2) := by decide +kernel
theorem dX0_gather_15 : decode cX0_gather 15 = .ok (.iload 4, 2) := by decide +kernel
theorem dX0_gather_17 : decode cX0_gather 17 = .ok (.aload_n 1, 1) := by decide +kernel
theorem dX0_gather_18 : decode cX0_gather 18 = .ok (.getfield 85, 3) := by decide +kernel
theorem dX0_gather_21 : decode cX0_gather 21 = .ok (.if_icmp .ge 62, 3) := by decide +kernel
theorem dX0_gather_24 : decode cX0_gather 24 = .ok (.aload_n 1, 1) := by decide +kernel
theorem dX0_gather_25 : decode cX0_gather 25 = .ok (.getfield 88, 3) := by decide +kernel
theorem dX0_gather_28 : decode cX0_gather 28 = .ok (.iload 4, 2) := by decide +kernel
theorem dX0_gather_30 : decode cX0_gather 30 = .ok (.aaload, 1) := by decide +kernel
theorem dX0_gather_31 : decode cX0_gather 31 = .ok (.astore 5, 2) := by decide +kernel
theorem dX0_gather_33 : decode cX0_gather 33 = .ok (.iconst 0, 1) := by decide +kernel
theorem dX0_gather_34 : decode cX0_gather 34 = .ok (.istore 6, 2) := by decide +kernel
theorem dX0_gather_36 : decode cX0_gather 36 = .ok (.iload 6, 2) := by decide +kernel
theorem dX0_gather_38 : decode cX0_gather 38 = .ok (.aload 5, 2) := by decide +kernel
theorem dX0_gather_40 : decode cX0_gather 40 = .ok (.getfield 92, 3) := by decide +kernel
theorem dX0_gather_43 : decode cX0_gather 43 = .ok (.if_icmp .ge 34, 3) := by decide +kernel
theorem dX0_gather_46 : decode cX0_gather 46 = .ok (.iload_n 3, 1) := by decide +kernel
theorem dX0_gather_47 : decode cX0_gather 47 = .ok (.aload 5, 2) := by decide +kernel
theorem dX0_gather_49 : decode cX0_gather 49 = .ok (.iload 6, 2) := by decide +kernel
theorem dX0_gather_51 : decode cX0_gather 51 = .ok (.iload_n 2, 1) := by decide +kernel
theorem dX0_gather_52 : decode cX0_gather 52 = .ok (.invokevirtual 93, 3) := by decide +kernel
theorem dX0_gather_55 : decode cX0_gather 55 = .ok (.iadd, 1) := by decide +kernel
theorem dX0_gather_56 : decode cX0_gather 56 = .ok (.istore_n 3, 1) := by decide +kernel
theorem dX0_gather_57 : decode cX0_gather 57 = .ok (.aload_n 0, 1) := by decide +kernel
theorem dX0_gather_58 : decode cX0_gather 58 = .ok (.aload 5, 2) := by decide +kernel
theorem dX0_gather_60 : decode cX0_gather 60 = .ok (.iload 6, 2) := by decide +kernel
theorem dX0_gather_62 : decode cX0_gather 62 = .ok (.iload 4, 2) := by decide +kernel
theorem dX0_gather_64 : decode cX0_gather 64 = .ok (.bipush 40, 2) := by decide +kernel
theorem dX0_gather_66 : decode cX0_gather 66 = .ok (.imul, 1) := by decide +kernel
theorem dX0_gather_67 : decode cX0_gather 67 = .ok (.iload_n 2, 1) := by decide +kernel
theorem dX0_gather_68 : decode cX0_gather 68 = .ok (.invokevirtual 97, 3) := by decide +kernel
theorem dX0_gather_71 : decode cX0_gather 71 = .ok (.iinc 6 1, 3) := by decide +kernel
theorem dX0_gather_74 : decode cX0_gather 74 = .ok (.goto (-38), 3) := by decide +kernel
theorem dX0_gather_77 : decode cX0_gather 77 = .ok (.iinc 4 1, 3) := by decide +kernel
theorem dX0_gather_80 : decode cX0_gather 80 = .ok (.goto (-65), 3) := by decide +kernel
theorem dX0_gather_83 : decode cX0_gather 83 = .ok (.iload_n 3, 1) := by decide +kernel
theorem dX0_gather_84 : decode cX0_gather 84 = .ok (.ireturn, 1) := by decide +kernel
theorem dX0_gatherAt_0 : decode cX0_gatherAt 0 = .ok (.aload_n 1, 1) := by decide +kernel
theorem dX0_gatherAt_1 : decode cX0_gatherAt 1 = .ok (.iload_n 2, 1) := by decide +kernel
theorem dX0_gatherAt_2 : decode cX0_gatherAt 2 = .ok (.invokevirtual 101, 3) := by decide +kernel
theorem dX0_gatherAt_5 : decode cX0_gatherAt 5 = .ok (.istore 5, 2) := by decide +kernel
theorem dX0_gatherAt_7 : decode cX0_gatherAt 7 = .ok (.iconst 0, 1) := by decide +kernel
theorem dX0_gatherAt_8 : decode cX0_gatherAt 8 = .ok (.iconst 0, 1) := by decide +kernel
theorem dX0_gatherAt_9 : decode cX0_gatherAt 9 = .ok (.aload_n 1, 1) := by decide +kernel
theorem dX0_gatherAt_10 : decode cX0_gatherAt 10 = .ok (.getfield 105, 3) := by decide +kernel
theorem dX0_gatherAt_13 : decode cX0_gatherAt 13 = .ok (.iload_n 2, 1) := by decide +kernel
theorem dX0_gatherAt_14 : decode cX0_gatherAt 14 = .ok (.iaload, 1) := by decide +kernel
theorem dX0_gatherAt_15 : decode cX0_gatherAt 15 = .ok (.invokestatic 108, 3) := by decide +kernel
theorem dX0_gatherAt_18 : decode cX0_gatherAt 18 = .ok (.istore 6, 2) := by decide +kernel
theorem dX0_gatherAt_20 : decode cX0_gatherAt 20 = .ok (.iconst 0, 1) := by decide +kernel
theorem dX0_gatherAt_21 : decode cX0_gatherAt 21 = .ok (.istore 7, 2) := by decide +kernel
theorem dX0_gatherAt_23 : decode cX0_gatherAt 23 = .ok (.iconst 2, 1) := by decide +kernel
theorem dX0_gatherAt_24 : decode cX0_gatherAt 24 = .ok (.istore 8, 2) := by decide +kernel
theorem dX0_gatherAt_26 : decode cX0_gatherAt 26 = .ok (.iload 8, 2) := by decide +kernel
theorem dX0_gatherAt_28 : decode cX0_gatherAt 28 = .ok (.iload 5, 2) := by decide +kernel
theorem dX0_gatherAt_30 : decode cX0_gatherAt 30 = .ok (.if_icmp .gt 70, 3) := by decide +kernel
theorem dX0_gatherAt_33 : decode cX0_gatherAt 33 = .ok (.iload_n 2, 1) := by decide +kernel
theorem dX0_gatherAt_34 : decode cX0_gatherAt 34 = .ok (.iload 8, 2) := by decide +kernel
theorem dX0_gatherAt_36 : decode cX0_gatherAt 36 = .ok (.iadd, 1) := by decide +kernel
theorem dX0_gatherAt_37 : decode cX0_gatherAt 37 = .ok (.iconst 1, 1) := by decide +kernel
theorem dX0_gatherAt_38 : decode cX0_gatherAt 38 = .ok (.isub, 1) := by decide +kernel
theorem dX0_gatherAt_39 : decode cX0_gatherAt 39 = .ok (.istore 9, 2) := by decide +kernel
theorem dX0_gatherAt_41 : decode cX0_gatherAt 41 = .ok (.iload 6, 2) := by decide +kernel
theorem dX0_gatherAt_43 : decode cX0_gatherAt 43 = .ok (.iload 8, 2) := by decide +kernel
theorem dX0_gatherAt_45 : decode cX0_gatherAt 45 = .ok (.iconst 1, 1) := by decide +kernel
theorem dX0_gatherAt_46 : decode cX0_gatherAt 46 = .ok (.isub, 1) := by decide +kernel
theorem dX0_gatherAt_47 : decode cX0_gatherAt 47 = .ok (.aload_n 1, 1) := by decide +kernel
theorem dX0_gatherAt_48 : decode cX0_gatherAt 48 = .ok (.getfield 105, 3) := by decide +kernel
theorem dX0_gatherAt_51 : decode cX0_gatherAt 51 = .ok (.iload 9, 2) := by decide +kernel
theorem dX0_gatherAt_53 : decode cX0_gatherAt 53 = .ok (.iaload, 1) := by decide +kernel
theorem dX0_gatherAt_54 : decode cX0_gatherAt 54 = .ok (.invokestatic 108, 3) := by decide +kernel
theorem dX0_gatherAt_57 : decode cX0_gatherAt 57 = .ok (.istore 6, 2) := by decide +kernel
theorem dX0_gatherAt_59 : decode cX0_gatherAt 59 = .ok (.iload 7, 2) := by decide +kernel
theorem dX0_gatherAt_61 : decode cX0_gatherAt 61 = .ok (.aload_n 1, 1) := by decide +kernel
theorem dX0_gatherAt_62 : decode cX0_gatherAt 62 = .ok (.iload 9, 2) := by decide +kernel
theorem dX0_gatherAt_64 : decode cX0_gatherAt 64 = .ok (.iload 4, 2) := by decide +kernel
theorem dX0_gatherAt_66 : decode cX0_gatherAt 66 = .ok (.invokevirtual 93, 3) := by decide +kernel
theorem dX0_gatherAt_69 : decode cX0_gatherAt 69 = .ok (.iadd, 1) := by decide +kernel
theorem dX0_gatherAt_70 : decode cX0_gatherAt 70 = .ok (.istore 7, 2) := by decide +kernel
theorem dX0_gatherAt_72 : decode cX0_gatherAt 72 = .ok (.iload 7, 2) := by decide +kernel
theorem dX0_gatherAt_74 : decode cX0_gatherAt 74 = .ok (.ifCond .le 20, 3) := by decide +kernel
theorem dX0_gatherAt_77 : decode cX0_gatherAt 77 = .ok (.aload_n 0, 1) := by decide +kernel
theorem dX0_gatherAt_78 : decode cX0_gatherAt 78 = .ok (.iload 6, 2) := by decide +kernel
theorem dX0_gatherAt_80 : decode cX0_gatherAt 80 = .ok (.iload_n 3, 1) := by decide +kernel
theorem dX0_gatherAt_81 : decode cX0_gatherAt 81 = .ok (.iload_n 2, 1) := by decide +kernel
theorem dX0_gatherAt_82 : decode cX0_gatherAt 82 = .ok (.iadd, 1) := by decide +kernel
theorem dX0_gatherAt_83 : decode cX0_gatherAt 83 = .ok (.iload_n 3, 1) := by decide +kernel
theorem dX0_gatherAt_84 : decode cX0_gatherAt 84 = .ok (.iload 9, 2) := by decide +kernel
theorem dX0_gatherAt_86 : decode cX0_gatherAt 86 = .ok (.iadd, 1) := by decide +kernel
theorem dX0_gatherAt_87 : decode cX0_gatherAt 87 = .ok (.iconst 1, 1) := by decide +kernel
theorem dX0_gatherAt_88 : decode cX0_gatherAt 88 = .ok (.iadd, 1) := by decide +kernel
theorem dX0_gatherAt_89 : decode cX0_gatherAt 89 = .ok (.iload 7, 2) := by decide +kernel
theorem dX0_gatherAt_91 : decode cX0_gatherAt 91 = .ok (.invokevirtual 114, 3) := by decide +kernel
theorem dX0_gatherAt_94 : decode cX0_gatherAt 94 = .ok (.iinc 8 1, 3) := by decide +kernel
theorem dX0_gatherAt_97 : decode cX0_gatherAt 97 = .ok (.goto (-71), 3) := by decide +kernel
theorem dX0_gatherAt_100 : decode cX0_gatherAt 100 = .ok (.return_, 1) := by decide +kernel
theorem dX0_addStand_0 : decode cX0_addStand 0 = .ok (.aload_n 0, 1) := by decide +kernel
theorem dX0_addStand_1 : decode cX0_addStand 1 = .ok (.iload_n 1, 1) := by decide +kernel
theorem dX0_addStand_2 : decode cX0_addStand 2 = .ok (.invokevirtual 118, 3) := by decide +kernel
theorem dX0_addStand_5 : decode cX0_addStand 5 = .ok (.istore 5, 2) := by decide +kernel
theorem dX0_addStand_7 : decode cX0_addStand 7 = .ok (.aload_n 0, 1) := by decide +kernel
theorem dX0_addStand_8 : decode cX0_addStand 8 = .ok (.getfield 28, 3) := by decide +kernel
theorem dX0_addStand_11 : decode cX0_addStand 11 = .ok (.aload_n 0, 1) := by decide +kernel
theorem dX0_addStand_12 : decode cX0_addStand 12 = .ok (.getfield 82, 3) := by decide +kernel
theorem dX0_addStand_15 : decode cX0_addStand 15 = .ok (.iload_n 2, 1) := by decide +kernel
theorem dX0_addStand_16 : decode cX0_addStand 16 = .ok (.iastore, 1) := by decide +kernel
theorem dX0_addStand_17 : decode cX0_addStand 17 = .ok (.aload_n 0, 1) := by decide +kernel
theorem dX0_addStand_18 : decode cX0_addStand 18 = .ok (.getfield 31, 3) := by decide +kernel
theorem dX0_addStand_21 : decode cX0_addStand 21 = .ok (.aload_n 0, 1) := by decide +kernel
theorem dX0_addStand_22 : decode cX0_addStand 22 = .ok (.getfield 82, 3) := by decide +kernel
theorem dX0_addStand_25 : decode cX0_addStand 25 = .ok (.iload_n 3, 1) := by decide +kernel
theorem dX0_addStand_26 : decode cX0_addStand 26 = .ok (.iastore, 1) := by decide +kernel
theorem dX0_addStand_27 : decode cX0_addStand 27 = .ok (.aload_n 0, 1) := by decide +kernel
theorem dX0_addStand_28 : decode cX0_addStand 28 = .ok (.getfield 34, 3) := by decide +kernel
theorem dX0_addStand_31 : decode cX0_addStand 31 = .ok (.aload_n 0, 1) := by decide +kernel
theorem dX0_addStand_32 : decode cX0_addStand 32 = .ok (.getfield 82, 3) := by decide +kernel
theorem dX0_addStand_35 : decode cX0_addStand 35 = .ok (.iload 4, 2) := by decide +kernel
theorem dX0_addStand_37 : decode cX0_addStand 37 = .ok (.iastore, 1) := by decide +kernel
theorem dX0_addStand_38 : decode cX0_addStand 38 = .ok (.aload_n 0, 1) := by decide +kernel
theorem dX0_addStand_39 : decode cX0_addStand 39 = .ok (.getfield 37, 3) := by decide +kernel
theorem dX0_addStand_42 : decode cX0_addStand 42 = .ok (.aload_n 0, 1) := by decide +kernel
theorem dX0_addStand_43 : decode cX0_addStand 43 = .ok (.getfield 82, 3) := by decide +kernel
theorem dX0_addStand_46 : decode cX0_addStand 46 = .ok (.aload_n 0, 1) := by decide +kernel
theorem dX0_addStand_47 : decode cX0_addStand 47 = .ok (.getfield 19, 3) := by decide +kernel
theorem dX0_addStand_50 : decode cX0_addStand 50 = .ok (.iload 5, 2) := by decide +kernel
theorem dX0_addStand_52 : decode cX0_addStand 52 = .ok (.iaload, 1) := by decide +kernel
theorem dX0_addStand_53 : decode cX0_addStand 53 = .ok (.iastore, 1) := by decide +kernel
theorem dX0_addStand_54 : decode cX0_addStand 54 = .ok (.aload_n 0, 1) := by decide +kernel
theorem dX0_addStand_55 : decode cX0_addStand 55 = .ok (.getfield 19, 3) := by decide +kernel
theorem dX0_addStand_58 : decode cX0_addStand 58 = .ok (.iload 5, 2) := by decide +kernel
theorem dX0_addStand_60 : decode cX0_addStand 60 = .ok (.aload_n 0, 1) := by decide +kernel
theorem dX0_addStand_61 : decode cX0_addStand 61 = .ok (.getfield 82, 3) := by decide +kernel
theorem dX0_addStand_64 : decode cX0_addStand 64 = .ok (.iastore, 1) := by decide +kernel
theorem dX0_addStand_65 : decode cX0_addStand 65 = .ok (.aload_n 0, 1) := by decide +kernel
theorem dX0_addStand_66 : decode cX0_addStand 66 = .ok (.dup, 1) := by decide +kernel
theorem dX0_addStand_67 : decode cX0_addStand 67 = .ok (.getfield 82, 3) := by decide +kernel
theorem dX0_addStand_70 : decode cX0_addStand 70 = .ok (.iconst 1, 1) := by decide +kernel
theorem dX0_addStand_71 : decode cX0_addStand 71 = .ok (.iadd, 1) := by decide +kernel
theorem dX0_addStand_72 : decode cX0_addStand 72 = .ok (.putfield 82, 3) := by decide +kernel
theorem dX0_addStand_75 : decode cX0_addStand 75 = .ok (.return_, 1) := by decide +kernel
theorem dX0_findRow_0 : decode cX0_findRow 0 = .ok (.iconst 0, 1) := by decide +kernel
theorem dX0_findRow_1 : decode cX0_findRow 1 = .ok (.istore_n 2, 1) := by decide +kernel
theorem dX0_findRow_2 : decode cX0_findRow 2 = .ok (.aload_n 0, 1) := by decide +kernel
theorem dX0_findRow_3 : decode cX0_findRow 3 = .ok (.getfield 79, 3) := by decide +kernel
theorem dX0_findRow_6 : decode cX0_findRow 6 = .ok (.istore_n 3, 1) := by decide +kernel
theorem dX0_findRow_7 : decode cX0_findRow 7 = .ok (.iconst 0, 1) := by decide +kernel
theorem dX0_findRow_8 : decode cX0_findRow 8 = .ok (.istore 4, 2) := by decide +kernel
theorem dX0_findRow_10 : decode cX0_findRow 10 = .ok (.iload 4, 2) := by decide +kernel
theorem dX0_findRow_12 : decode cX0_findRow 12 = .ok (.sipush 360, 3) := by decide +kernel
theorem dX0_findRow_15 : decode cX0_findRow 15 = .ok (.if_icmp .ge 43, 3) := by decide +kernel
theorem dX0_findRow_18 : decode cX0_findRow 18 = .ok (.iload_n 2, 1) := by decide +kernel
theorem dX0_findRow_19 : decode cX0_findRow 19 = .ok (.iload_n 3, 1) := by decide +kernel
theorem dX0_findRow_20 : decode cX0_findRow 20 = .ok (.if_icmp .ge 38, 3) := by decide +kernel
theorem dX0_findRow_23 : decode cX0_findRow 23 = .ok (.iload_n 2, 1) := by decide +kernel
theorem dX0_findRow_24 : decode cX0_findRow 24 = .ok (.iload_n 3, 1) := by decide +kernel
theorem dX0_findRow_25 : decode cX0_findRow 25 = .ok (.iadd, 1) := by decide +kernel
theorem dX0_findRow_26 : decode cX0_findRow 26 = .ok (.iconst 2, 1) := by decide +kernel
theorem dX0_findRow_27 : decode cX0_findRow 27 = .ok (.idiv, 1) := by decide +kernel
theorem dX0_findRow_28 : decode cX0_findRow 28 = .ok (.istore 5, 2) := by decide +kernel
theorem dX0_findRow_30 : decode cX0_findRow 30 = .ok (.aload_n 0, 1) := by decide +kernel
theorem dX0_findRow_31 : decode cX0_findRow 31 = .ok (.getfield 15, 3) := by decide +kernel
theorem dX0_findRow_34 : decode cX0_findRow 34 = .ok (.iload 5, 2) := by decide +kernel
theorem dX0_findRow_36 : decode cX0_findRow 36 = .ok (.iaload, 1) := by decide +kernel
theorem dX0_findRow_37 : decode cX0_findRow 37 = .ok (.iload_n 1, 1) := by decide +kernel
theorem dX0_findRow_38 : decode cX0_findRow 38 = .ok (.if_icmp .ge 11, 3) := by decide +kernel
theorem dX0_findRow_41 : decode cX0_findRow 41 = .ok (.iload 5, 2) := by decide +kernel
theorem dX0_findRow_43 : decode cX0_findRow 43 = .ok (.iconst 1, 1) := by decide +kernel
theorem dX0_findRow_44 : decode cX0_findRow 44 = .ok (.iadd, 1) := by decide +kernel
theorem dX0_findRow_45 : decode cX0_findRow 45 = .ok (.istore_n 2, 1) := by decide +kernel
theorem dX0_findRow_46 : decode cX0_findRow 46 = .ok (.goto 6, 3) := by decide +kernel
theorem dX0_findRow_49 : decode cX0_findRow 49 = .ok (.iload 5, 2) := by decide +kernel
theorem dX0_findRow_51 : decode cX0_findRow 51 = .ok (.istore_n 3, 1) := by decide +kernel
theorem dX0_findRow_52 : decode cX0_findRow 52 = .ok (.iinc 4 1, 3) := by decide +kernel
theorem dX0_findRow_55 : decode cX0_findRow 55 = .ok (.goto (-45), 3) := by decide +kernel
theorem dX0_findRow_58 : decode cX0_findRow 58 = .ok (.iload_n 2, 1) := by decide +kernel
theorem dX0_findRow_59 : decode cX0_findRow 59 = .ok (.aload_n 0, 1) := by decide +kernel
theorem dX0_findRow_60 : decode cX0_findRow 60 = .ok (.getfield 79, 3) := by decide +kernel
theorem dX0_findRow_63 : decode cX0_findRow 63 = .ok (.if_icmp .eq 13, 3) := by decide +kernel
theorem dX0_findRow_66 : decode cX0_findRow 66 = .ok (.aload_n 0, 1) := by decide +kernel
theorem dX0_findRow_67 : decode cX0_findRow 67 = .ok (.getfield 15, 3) := by decide +kernel
theorem dX0_findRow_70 : decode cX0_findRow 70 = .ok (.iload_n 2, 1) := by decide +kernel
theorem dX0_findRow_71 : decode cX0_findRow 71 = .ok (.iaload, 1) := by decide +kernel
theorem dX0_findRow_72 : decode cX0_findRow 72 = .ok (.iload_n 1, 1) := by decide +kernel
theorem dX0_findRow_73 : decode cX0_findRow 73 = .ok (.if_icmp .eq 69, 3) := by decide +kernel
theorem dX0_findRow_76 : decode cX0_findRow 76 = .ok (.aload_n 0, 1) := by decide +kernel
theorem dX0_findRow_77 : decode cX0_findRow 77 = .ok (.getfield 15, 3) := by decide +kernel
theorem dX0_findRow_80 : decode cX0_findRow 80 = .ok (.iload_n 2, 1) := by decide +kernel
theorem dX0_findRow_81 : decode cX0_findRow 81 = .ok (.aload_n 0, 1) := by decide +kernel
theorem dX0_findRow_82 : decode cX0_findRow 82 = .ok (.getfield 15, 3) := by decide +kernel
theorem dX0_findRow_85 : decode cX0_findRow 85 = .ok (.iload_n 2, 1) := by decide +kernel
theorem dX0_findRow_86 : decode cX0_findRow 86 = .ok (.iconst 1, 1) := by decide +kernel
theorem dX0_findRow_87 : decode cX0_findRow 87 = .ok (.iadd, 1) := by decide +kernel
theorem dX0_findRow_88 : decode cX0_findRow 88 = .ok (.aload_n 0, 1) := by decide +kernel
theorem dX0_findRow_89 : decode cX0_findRow 89 = .ok (.getfield 79, 3) := by decide +kernel
theorem dX0_findRow_92 : decode cX0_findRow 92 = .ok (.iload_n 2, 1) := by decide +kernel
theorem dX0_findRow_93 : decode cX0_findRow 93 = .ok (.isub, 1) := by decide +kernel
theorem dX0_findRow_94 : decode cX0_findRow 94 = .ok (.invokestatic 121, 3) := by decide +kernel
theorem dX0_findRow_97 : decode cX0_findRow 97 = .ok (.aload_n 0, 1) := by decide +kernel
theorem dX0_findRow_98 : decode cX0_findRow 98 = .ok (.getfield 19, 3) := by decide +kernel
theorem dX0_findRow_101 : decode cX0_findRow 101 = .ok (.iload_n 2, 1) := by decide +kernel
theorem dX0_findRow_102 : decode cX0_findRow 102 = .ok (.aload_n 0, 1) := by decide +kernel
theorem dX0_findRow_103 : decode cX0_findRow 103 = .ok (.getfield 19, 3) := by decide +kernel
theorem dX0_findRow_106 : decode cX0_findRow 106 = .ok (.iload_n 2, 1) := by decide +kernel
theorem dX0_findRow_107 : decode cX0_findRow 107 = .ok (.iconst 1, 1) := by decide +kernel
theorem dX0_findRow_108 : decode cX0_findRow 108 = .ok (.iadd, 1) := by decide +kernel
theorem dX0_findRow_109 : decode cX0_findRow 109 = .ok (.aload_n 0, 1) := by decide +kernel
theorem dX0_findRow_110 : decode cX0_findRow 110 = .ok (.getfield 79, 3) := by decide +kernel
theorem dX0_findRow_113 : decode cX0_findRow 113 = .ok (.iload_n 2, 1) := by decide +kernel
theorem dX0_findRow_114 : decode cX0_findRow 114 = .ok (.isub, 1) := by decide +kernel
theorem dX0_findRow_115 : decode cX0_findRow 115 = .ok (.invokestatic 121, 3) := by decide +kernel
theorem dX0_findRow_118 : decode cX0_findRow 118 = .ok (.aload_n 0, 1) := by decide +kernel
theorem dX0_findRow_119 : decode cX0_findRow 119 = .ok (.getfield 15, 3) := by decide +kernel
theorem dX0_findRow_122 : decode cX0_findRow 122 = .ok (.iload_n 2, 1) := by decide +kernel
theorem dX0_findRow_123 : decode cX0_findRow 123 = .ok (.iload_n 1, 1) := by decide +kernel
theorem dX0_findRow_124 : decode cX0_findRow 124 = .ok (.iastore, 1) := by decide +kernel
theorem dX0_findRow_125 : decode cX0_findRow 125 = .ok (.aload_n 0, 1) := by decide +kernel
theorem dX0_findRow_126 : decode cX0_findRow 126 = .ok (.getfield 19, 3) := by decide +kernel
theorem dX0_findRow_129 : decode cX0_findRow 129 = .ok (.iload_n 2, 1) := by decide +kernel
theorem dX0_findRow_130 : decode cX0_findRow 130 = .ok (.iconst (-1), 1) := by decide +kernel
theorem dX0_findRow_131 : decode cX0_findRow 131 = .ok (.iastore, 1) := by decide +kernel
theorem dX0_findRow_132 : decode cX0_findRow 132 = .ok (.aload_n 0, 1) := by decide +kernel
theorem dX0_findRow_133 : decode cX0_findRow 133 = .ok (.dup, 1) := by decide +kernel
theorem dX0_findRow_134 : decode cX0_findRow 134 = .ok (.getfield 79, 3) := by decide +kernel
theorem dX0_findRow_137 : decode cX0_findRow 137 = .ok (.iconst 1, 1) := by decide +kernel
theorem dX0_findRow_138 : decode cX0_findRow 138 = .ok (.iadd, 1) := by decide +kernel
theorem dX0_findRow_139 : decode cX0_findRow 139 = .ok (.putfield 79, 3) := by decide +kernel
theorem dX0_findRow_142 : decode cX0_findRow 142 = .ok (.iload_n 2, 1) := by decide +kernel
theorem dX0_findRow_143 : decode cX0_findRow 143 = .ok (.ireturn, 1) := by decide +kernel
theorem dX0_chooseOne_0 : decode cX0_chooseOne 0 = .ok (.aload_n 0, 1) := by decide +kernel
theorem dX0_chooseOne_1 : decode cX0_chooseOne 1 = .ok (.iconst 0, 1) := by decide +kernel
theorem dX0_chooseOne_2 : decode cX0_chooseOne 2 = .ok (.putfield 76, 3) := by decide +kernel
theorem dX0_chooseOne_5 : decode cX0_chooseOne 5 = .ok (.aload_n 0, 1) := by decide +kernel
theorem dX0_chooseOne_6 : decode cX0_chooseOne 6 = .ok (.iconst (-1), 1) := by decide +kernel
theorem dX0_chooseOne_7 : decode cX0_chooseOne 7 = .ok (.putfield 66, 3) := by decide +kernel
theorem dX0_chooseOne_10 : decode cX0_chooseOne 10 = .ok (.aload_n 0, 1) := by decide +kernel
theorem dX0_chooseOne_11 : decode cX0_chooseOne 11 = .ok (.iconst (-1), 1) := by decide +kernel
theorem dX0_chooseOne_12 : decode cX0_chooseOne 12 = .ok (.putfield 73, 3) := by decide +kernel
theorem dX0_chooseOne_15 : decode cX0_chooseOne 15 = .ok (.iconst 0, 1) := by decide +kernel
theorem dX0_chooseOne_16 : decode cX0_chooseOne 16 = .ok (.istore_n 1, 1) := by decide +kernel
theorem dX0_chooseOne_17 : decode cX0_chooseOne 17 = .ok (.iload_n 1, 1) := by decide +kernel
theorem dX0_chooseOne_18 : decode cX0_chooseOne 18 = .ok (.aload_n 0, 1) := by decide +kernel
theorem dX0_chooseOne_19 : decode cX0_chooseOne 19 = .ok (.getfield 79, 3) := by decide +kernel
theorem dX0_chooseOne_22 : decode cX0_chooseOne 22 = .ok (.if_icmp .ge 54, 3) := by decide +kernel
theorem dX0_chooseOne_25 : decode cX0_chooseOne 25 = .ok (.aload_n 0, 1) := by decide +kernel
theorem dX0_chooseOne_26 : decode cX0_chooseOne 26 = .ok (.getfield 22, 3) := by decide +kernel
theorem dX0_chooseOne_29 : decode cX0_chooseOne 29 = .ok (.iload_n 1, 1) := by decide +kernel
theorem dX0_chooseOne_30 : decode cX0_chooseOne 30 = .ok (.aload_n 0, 1) := by decide +kernel
theorem dX0_chooseOne_31 : decode cX0_chooseOne 31 = .ok (.aload_n 0, 1) := by decide +kernel
theorem dX0_chooseOne_32 : decode cX0_chooseOne 32 = .ok (.getfield 19, 3) := by decide +kernel
theorem dX0_chooseOne_35 : decode cX0_chooseOne 35 = .ok (.iload_n 1, 1) := by decide +kernel
theorem dX0_chooseOne_36 : decode cX0_chooseOne 36 = .ok (.iaload, 1) := by decide +kernel
theorem dX0_chooseOne_37 : decode cX0_chooseOne 37 = .ok (.iconst (-1), 1) := by decide +kernel
theorem dX0_chooseOne_38 : decode cX0_chooseOne 38 = .ok (.invokevirtual 127, 3) := by decide +kernel
theorem dX0_chooseOne_41 : decode cX0_chooseOne 41 = .ok (.iastore, 1) := by decide +kernel
theorem dX0_chooseOne_42 : decode cX0_chooseOne 42 = .ok (.aload_n 0, 1) := by decide +kernel
theorem dX0_chooseOne_43 : decode cX0_chooseOne 43 = .ok (.getfield 22, 3) := by decide +kernel
theorem dX0_chooseOne_46 : decode cX0_chooseOne 46 = .ok (.iload_n 1, 1) := by decide +kernel
theorem dX0_chooseOne_47 : decode cX0_chooseOne 47 = .ok (.iaload, 1) := by decide +kernel
theorem dX0_chooseOne_48 : decode cX0_chooseOne 48 = .ok (.aload_n 0, 1) := by decide +kernel
theorem dX0_chooseOne_49 : decode cX0_chooseOne 49 = .ok (.getfield 76, 3) := by decide +kernel
theorem dX0_chooseOne_52 : decode cX0_chooseOne 52 = .ok (.if_icmp .le 18, 3) := by decide +kernel
theorem dX0_chooseOne_55 : decode cX0_chooseOne 55 = .ok (.aload_n 0, 1) := by decide +kernel
theorem dX0_chooseOne_56 : decode cX0_chooseOne 56 = .ok (.aload_n 0, 1) := by decide +kernel
theorem dX0_chooseOne_57 : decode cX0_chooseOne 57 = .ok (.getfield 22, 3) := by decide +kernel
theorem dX0_chooseOne_60 : decode cX0_chooseOne 60 = .ok (.iload_n 1, 1) := by decide +kernel
theorem dX0_chooseOne_61 : decode cX0_chooseOne 61 = .ok (.iaload, 1) := by decide +kernel
theorem dX0_chooseOne_62 : decode cX0_chooseOne 62 = .ok (.putfield 76, 3) := by decide +kernel
theorem dX0_chooseOne_65 : decode cX0_chooseOne 65 = .ok (.aload_n 0, 1) := by decide +kernel
theorem dX0_chooseOne_66 : decode cX0_chooseOne 66 = .ok (.iload_n 1, 1) := by decide +kernel
theorem dX0_chooseOne_67 : decode cX0_chooseOne 67 = .ok (.putfield 66, 3) := by decide +kernel
theorem dX0_chooseOne_70 : decode cX0_chooseOne 70 = .ok (.iinc 1 1, 3) := by decide +kernel
theorem dX0_chooseOne_73 : decode cX0_chooseOne 73 = .ok (.goto (-56), 3) := by decide +kernel
theorem dX0_chooseOne_76 : decode cX0_chooseOne 76 = .ok (.return_, 1) := by decide +kernel
theorem dX0_chooseTwo_0 : decode cX0_chooseTwo 0 = .ok (.aload_n 0, 1) := by decide +kernel
theorem dX0_chooseTwo_1 : decode cX0_chooseTwo 1 = .ok (.getfield 25, 3) := by decide +kernel
theorem dX0_chooseTwo_4 : decode cX0_chooseTwo 4 = .ok (.aload_n 0, 1) := by decide +kernel
theorem dX0_chooseTwo_5 : decode cX0_chooseTwo 5 = .ok (.getfield 79, 3) := by decide +kernel
theorem dX0_chooseTwo_8 : decode cX0_chooseTwo 8 = .ok (.iconst 0, 1) := by decide +kernel
theorem dX0_chooseTwo_9 : decode cX0_chooseTwo 9 = .ok (.iastore, 1) := by decide +kernel
theorem dX0_chooseTwo_10 : decode cX0_chooseTwo 10 = .ok (.aload_n 0, 1) := by decide +kernel
theorem dX0_chooseTwo_11 : decode cX0_chooseTwo 11 = .ok (.getfield 79, 3) := by decide +kernel
theorem dX0_chooseTwo_14 : decode cX0_chooseTwo 14 = .ok (.iconst 1, 1) := by decide +kernel
theorem dX0_chooseTwo_15 : decode cX0_chooseTwo 15 = .ok (.isub, 1) := by decide +kernel
theorem dX0_chooseTwo_16 : decode cX0_chooseTwo 16 = .ok (.istore_n 1, 1) := by decide +kernel
theorem dX0_chooseTwo_17 : decode cX0_chooseTwo 17 = .ok (.iload_n 1, 1) := by decide +kernel
theorem dX0_chooseTwo_18 : decode cX0_chooseTwo 18 = .ok (.ifCond .lt 32, 3) := by decide +kernel
theorem dX0_chooseTwo_21 : decode cX0_chooseTwo 21 = .ok (.aload_n 0, 1) := by decide +kernel
theorem dX0_chooseTwo_22 : decode cX0_chooseTwo 22 = .ok (.getfield 25, 3) := by decide +kernel
theorem dX0_chooseTwo_25 : decode cX0_chooseTwo 25 = .ok (.iload_n 1, 1) := by decide +kernel
theorem dX0_chooseTwo_26 : decode cX0_chooseTwo 26 = .ok (.aload_n 0, 1) := by decide +kernel
theorem dX0_chooseTwo_27 : decode cX0_chooseTwo 27 = .ok (.getfield 22, 3) := by decide +kernel
theorem dX0_chooseTwo_30 : decode cX0_chooseTwo 30 = .ok (.iload_n 1, 1) := by decide +kernel
theorem dX0_chooseTwo_31 : decode cX0_chooseTwo 31 = .ok (.iaload, 1) := by decide +kernel
theorem dX0_chooseTwo_32 : decode cX0_chooseTwo 32 = .ok (.aload_n 0, 1) := by decide +kernel
theorem dX0_chooseTwo_33 : decode cX0_chooseTwo 33 = .ok (.getfield 25, 3) := by decide +kernel
theorem dX0_chooseTwo_36 : decode cX0_chooseTwo 36 = .ok (.iload_n 1, 1) := by decide +kernel
theorem dX0_chooseTwo_37 : decode cX0_chooseTwo 37 = .ok (.iconst 1, 1) := by decide +kernel
theorem dX0_chooseTwo_38 : decode cX0_chooseTwo 38 = .ok (.iadd, 1) := by decide +kernel
theorem dX0_chooseTwo_39 : decode cX0_chooseTwo 39 = .ok (.iaload, 1) := by decide +kernel
theorem dX0_chooseTwo_40 : decode cX0_chooseTwo 40 = .ok (.invokestatic 131, 3) := by decide +kernel
theorem dX0_chooseTwo_43 : decode cX0_chooseTwo 43 = .ok (.iastore, 1) := by decide +kernel
theorem dX0_chooseTwo_44 : decode cX0_chooseTwo 44 = .ok (.iinc 1 (-1), 3) := by decide +kernel
theorem dX0_chooseTwo_47 : decode cX0_chooseTwo 47 = .ok (.goto (-30), 3) := by decide +kernel
theorem dX0_chooseTwo_50 : decode cX0_chooseTwo 50 = .ok (.iconst 0, 1) := by decide +kernel
theorem dX0_chooseTwo_51 : decode cX0_chooseTwo 51 = .ok (.istore_n 1, 1) := by decide +kernel
theorem dX0_chooseTwo_52 : decode cX0_chooseTwo 52 = .ok (.iload_n 1, 1) := by decide +kernel
theorem dX0_chooseTwo_53 : decode cX0_chooseTwo 53 = .ok (.aload_n 0, 1) := by decide +kernel
theorem dX0_chooseTwo_54 : decode cX0_chooseTwo 54 = .ok (.getfield 79, 3) := by decide +kernel
theorem dX0_chooseTwo_57 : decode cX0_chooseTwo 57 = .ok (.if_icmp .ge 73, 3) := by decide +kernel
theorem dX0_chooseTwo_60 : decode cX0_chooseTwo 60 = .ok (.iload_n 1, 1) := by decide +kernel
theorem dX0_chooseTwo_61 : decode cX0_chooseTwo 61 = .ok (.iconst 1, 1) := by decide +kernel
theorem dX0_chooseTwo_62 : decode cX0_chooseTwo 62 = .ok (.iadd, 1) := by decide +kernel
theorem dX0_chooseTwo_63 : decode cX0_chooseTwo 63 = .ok (.istore_n 2, 1) := by decide +kernel
theorem dX0_chooseTwo_64 : decode cX0_chooseTwo 64 = .ok (.iload_n 2, 1) := by decide +kernel
theorem dX0_chooseTwo_65 : decode cX0_chooseTwo 65 = .ok (.aload_n 0, 1) := by decide +kernel
theorem dX0_chooseTwo_66 : decode cX0_chooseTwo 66 = .ok (.getfield 79, 3) := by decide +kernel
theorem dX0_chooseTwo_69 : decode cX0_chooseTwo 69 = .ok (.if_icmp .ge 55, 3) := by decide +kernel
theorem dX0_chooseTwo_72 : decode cX0_chooseTwo 72 = .ok (.aload_n 0, 1) := by decide +kernel
theorem dX0_chooseTwo_73 : decode cX0_chooseTwo 73 = .ok (.getfield 22, 3) := by decide +kernel
theorem dX0_chooseTwo_76 : decode cX0_chooseTwo 76 = .ok (.iload_n 1, 1) := by decide +kernel
theorem dX0_chooseTwo_77 : decode cX0_chooseTwo 77 = .ok (.iaload, 1) := by decide +kernel
theorem dX0_chooseTwo_78 : decode cX0_chooseTwo 78 = .ok (.aload_n 0, 1) := by decide +kernel
theorem dX0_chooseTwo_79 : decode cX0_chooseTwo 79 = .ok (.getfield 25, 3) := by decide +kernel
theorem dX0_chooseTwo_82 : decode cX0_chooseTwo 82 = .ok (.iload_n 2, 1) := by decide +kernel
theorem dX0_chooseTwo_83 : decode cX0_chooseTwo 83 = .ok (.iaload, 1) := by decide +kernel
theorem dX0_chooseTwo_84 : decode cX0_chooseTwo 84 = .ok (.iadd, 1) := by decide +kernel
theorem dX0_chooseTwo_85 : decode cX0_chooseTwo 85 = .ok (.aload_n 0, 1) := by decide +kernel
theorem dX0_chooseTwo_86 : decode cX0_chooseTwo 86 = .ok (.getfield 76, 3) := by decide +kernel
theorem dX0_chooseTwo_89 : decode cX0_chooseTwo 89 = .ok (.if_icmp .le 35, 3) := by decide +kernel
theorem dX0_chooseTwo_92 : decode cX0_chooseTwo 92 = .ok (.aload_n 0, 1) := by decide +kernel
theorem dX0_chooseTwo_93 : decode cX0_chooseTwo 93 = .ok (.getfield 22, 3) := by decide +kernel
theorem dX0_chooseTwo_96 : decode cX0_chooseTwo 96 = .ok (.iload_n 1, 1) := by decide +kernel
theorem dX0_chooseTwo_97 : decode cX0_chooseTwo 97 = .ok (.iaload, 1) := by decide +kernel
theorem dX0_chooseTwo_98 : decode cX0_chooseTwo 98 = .ok (.aload_n 0, 1) := by decide +kernel
theorem dX0_chooseTwo_99 : decode cX0_chooseTwo 99 = .ok (.getfield 22, 3) := by decide +kernel
theorem dX0_chooseTwo_102 : decode cX0_chooseTwo 102 = .ok (.iload_n 2, 1) := by decide +kernel
theorem dX0_chooseTwo_103 : decode cX0_chooseTwo 103 = .ok (.iaload, 1) := by decide +kernel
theorem dX0_chooseTwo_104 : decode cX0_chooseTwo 104 = .ok (.iadd, 1) := by decide +kernel
theorem dX0_chooseTwo_105 : decode cX0_chooseTwo 105 = .ok (.aload_n 0, 1) := by decide +kernel
theorem dX0_chooseTwo_106 : decode cX0_chooseTwo 106 = .ok (.getfield 76, 3) := by decide +kernel
theorem dX0_chooseTwo_109 : decode cX0_chooseTwo 109 = .ok (.if_icmp .le 9, 3) := by decide +kernel
theorem dX0_chooseTwo_112 : decode cX0_chooseTwo 112 = .ok (.aload_n 0, 1) := by decide +kernel
theorem dX0_chooseTwo_113 : decode cX0_chooseTwo 113 = .ok (.iload_n 1, 1) := by decide +kernel
theorem dX0_chooseTwo_114 : decode cX0_chooseTwo 114 = .ok (.iload_n 2, 1) := by decide +kernel
theorem dX0_chooseTwo_115 : decode cX0_chooseTwo 115 = .ok (.invokevirtual 136, 3) := by decide +kernel
theorem dX0_chooseTwo_118 : decode cX0_chooseTwo 118 = .ok (.iinc 2 1, 3) := by decide +kernel
theorem dX0_chooseTwo_121 : decode cX0_chooseTwo 121 = .ok (.goto (-57), 3) := by decide +kernel
theorem dX0_chooseTwo_124 : decode cX0_chooseTwo 124 = .ok (.iinc 1 1, 3) := by decide +kernel
theorem dX0_chooseTwo_127 : decode cX0_chooseTwo 127 = .ok (.goto (-75), 3) := by decide +kernel
theorem dX0_chooseTwo_130 : decode cX0_chooseTwo 130 = .ok (.return_, 1) := by decide +kernel
theorem dX0_tryTwo_0 : decode cX0_tryTwo 0 = .ok (.aload_n 0, 1) := by decide +kernel
theorem dX0_tryTwo_1 : decode cX0_tryTwo 1 = .ok (.aload_n 0, 1) := by decide +kernel
theorem dX0_tryTwo_2 : decode cX0_tryTwo 2 = .ok (.getfield 19, 3) := by decide +kernel
theorem dX0_tryTwo_5 : decode cX0_tryTwo 5 = .ok (.iload_n 1, 1) := by decide +kernel
theorem dX0_tryTwo_6 : decode cX0_tryTwo 6 = .ok (.iaload, 1) := by decide +kernel
theorem dX0_tryTwo_7 : decode cX0_tryTwo 7 = .ok (.aload_n 0, 1) := by decide +kernel
theorem dX0_tryTwo_8 : decode cX0_tryTwo 8 = .ok (.getfield 19, 3) := by decide +kernel
theorem dX0_tryTwo_11 : decode cX0_tryTwo 11 = .ok (.iload_n 2, 1) := by decide +kernel
theorem dX0_tryTwo_12 : decode cX0_tryTwo 12 = .ok (.iaload, 1) := by decide +kernel
theorem dX0_tryTwo_13 : decode cX0_tryTwo 13 = .ok (.invokevirtual 127, 3) := by decide +kernel
theorem dX0_tryTwo_16 : decode cX0_tryTwo 16 = .ok (.istore_n 3, 1) := by decide +kernel
theorem dX0_tryTwo_17 : decode cX0_tryTwo 17 = .ok (.iload_n 3, 1) := by decide +kernel
theorem dX0_tryTwo_18 : decode cX0_tryTwo 18 = .ok (.aload_n 0, 1) := by decide +kernel
theorem dX0_tryTwo_19 : decode cX0_tryTwo 19 = .ok (.getfield 76, 3) := by decide +kernel
theorem dX0_tryTwo_22 : decode cX0_tryTwo 22 = .ok (.if_icmp .le 18, 3) := by decide +kernel
theorem dX0_tryTwo_25 : decode cX0_tryTwo 25 = .ok (.aload_n 0, 1) := by decide +kernel
theorem dX0_tryTwo_26 : decode cX0_tryTwo 26 = .ok (.iload_n 3, 1) := by decide +kernel
theorem dX0_tryTwo_27 : decode cX0_tryTwo 27 = .ok (.putfield 76, 3) := by decide +kernel
theorem dX0_tryTwo_30 : decode cX0_tryTwo 30 = .ok (.aload_n 0, 1) := by decide +kernel
theorem dX0_tryTwo_31 : decode cX0_tryTwo 31 = .ok (.iload_n 1, 1) := by decide +kernel
theorem dX0_tryTwo_32 : decode cX0_tryTwo 32 = .ok (.putfield 66, 3) := by decide +kernel
theorem dX0_tryTwo_35 : decode cX0_tryTwo 35 = .ok (.aload_n 0, 1) := by decide +kernel
theorem dX0_tryTwo_36 : decode cX0_tryTwo 36 = .ok (.iload_n 2, 1) := by decide +kernel
theorem dX0_tryTwo_37 : decode cX0_tryTwo 37 = .ok (.putfield 73, 3) := by decide +kernel
theorem dX0_tryTwo_40 : decode cX0_tryTwo 40 = .ok (.return_, 1) := by decide +kernel
theorem dX0_mostSaved_0 : decode cX0_mostSaved 0 = .ok (.iload_n 1, 1) := by decide +kernel
theorem dX0_mostSaved_1 : decode cX0_mostSaved 1 = .ok (.istore_n 3, 1) := by decide +kernel
theorem dX0_mostSaved_2 : decode cX0_mostSaved 2 = .ok (.iload_n 2, 1) := by decide +kernel
theorem dX0_mostSaved_3 : decode cX0_mostSaved 3 = .ok (.istore 4, 2) := by decide +kernel
theorem dX0_mostSaved_5 : decode cX0_mostSaved 5 = .ok (.iconst 0, 1) := by decide +kernel
theorem dX0_mostSaved_6 : decode cX0_mostSaved 6 = .ok (.istore 5, 2) := by decide +kernel
theorem dX0_mostSaved_8 : decode cX0_mostSaved 8 = .ok (.iconst 0, 1) := by decide +kernel
theorem dX0_mostSaved_9 : decode cX0_mostSaved 9 = .ok (.istore 6, 2) := by decide +kernel
theorem dX0_mostSaved_11 : decode cX0_mostSaved 11 = .ok (.iload 6, 2) := by decide +kernel
theorem dX0_mostSaved_13 : decode cX0_mostSaved 13 = .ok (.sipush 360, 3) := by decide +kernel
theorem dX0_mostSaved_16 : decode cX0_mostSaved 16 = .ok (.if_icmp .ge 142, 3) := by decide +kernel
theorem dX0_mostSaved_19 : decode cX0_mostSaved 19 = .ok (.iload_n 3, 1) := by decide +kernel
theorem dX0_mostSaved_20 : decode cX0_mostSaved 20 = .ok (.iconst (-1), 1) := by decide +kernel
theorem dX0_mostSaved_21 : decode cX0_mostSaved 21 = .ok (.if_icmp .ne 9, 3) := by decide +kernel
theorem dX0_mostSaved_24 : decode cX0_mostSaved 24 = .ok (.iload 4, 2) := by decide +kernel
theorem dX0_mostSaved_26 : decode cX0_mostSaved 26 = .ok (.iconst (-1), 1) := by decide +kernel
theorem dX0_mostSaved_27 : decode cX0_mostSaved 27 = .ok (.if_icmp .eq 131, 3) := by decide +kernel
theorem dX0_mostSaved_30 : decode cX0_mostSaved 30 = .ok (.iload 4, 2) := by decide +kernel
theorem dX0_mostSaved_32 : decode cX0_mostSaved 32 = .ok (.iconst (-1), 1) := by decide +kernel
theorem dX0_mostSaved_33 : decode cX0_mostSaved 33 = .ok (.if_icmp .eq 24, 3) := by decide +kernel
theorem dX0_mostSaved_36 : decode cX0_mostSaved 36 = .ok (.iload_n 3, 1) := by decide +kernel
theorem dX0_mostSaved_37 : decode cX0_mostSaved 37 = .ok (.iconst (-1), 1) := by decide +kernel
theorem dX0_mostSaved_38 : decode cX0_mostSaved 38 = .ok (.if_icmp .eq 23, 3) := by decide +kernel
theorem dX0_mostSaved_41 : decode cX0_mostSaved 41 = .ok (.aload_n 0, 1) := by decide +kernel
theorem dX0_mostSaved_42 : decode cX0_mostSaved 42 = .ok (.getfield 28, 3) := by decide +kernel
theorem dX0_mostSaved_45 : decode cX0_mostSaved 45 = .ok (.iload_n 3, 1) := by decide +kernel
theorem dX0_mostSaved_46 : decode cX0_mostSaved 46 = .ok (.iaload, 1) := by decide +kernel
theorem dX0_mostSaved_47 : decode cX0_mostSaved 47 = .ok (.aload_n 0, 1) := by decide +kernel
theorem dX0_mostSaved_48 : decode cX0_mostSaved 48 = .ok (.getfield 28, 3) := by decide +kernel
theorem dX0_mostSaved_51 : decode cX0_mostSaved 51 = .ok (.iload 4, 2) := by decide +kernel
theorem dX0_mostSaved_53 : decode cX0_mostSaved 53 = .ok (.iaload, 1) := by decide +kernel
theorem dX0_mostSaved_54 : decode cX0_mostSaved 54 = .ok (.if_icmp .lt 7, 3) := by decide +kernel
theorem dX0_mostSaved_57 : decode cX0_mostSaved 57 = .ok (.iconst 1, 1) := by decide +kernel
theorem dX0_mostSaved_58 : decode cX0_mostSaved 58 = .ok (.goto 4, 3) := by decide +kernel
theorem dX0_mostSaved_61 : decode cX0_mostSaved 61 = .ok (.iconst 0, 1) := by decide +kernel
theorem dX0_mostSaved_62 : decode cX0_mostSaved 62 = .ok (.istore 7, 2) := by decide +kernel
theorem dX0_mostSaved_64 : decode cX0_mostSaved 64 = .ok (.iload 7, 2) := by decide +kernel
theorem dX0_mostSaved_66 : decode cX0_mostSaved 66 = .ok (.ifCond .eq 7, 3) := by decide +kernel
theorem dX0_mostSaved_69 : decode cX0_mostSaved 69 = .ok (.iload_n 3, 1) := by decide +kernel
theorem dX0_mostSaved_70 : decode cX0_mostSaved 70 = .ok (.goto 5, 3) := by decide +kernel
theorem dX0_mostSaved_73 : decode cX0_mostSaved 73 = .ok (.iload 4, 2) := by decide +kernel
theorem dX0_mostSaved_75 : decode cX0_mostSaved 75 = .ok (.istore 8, 2) := by decide +kernel
theorem dX0_mostSaved_77 : decode cX0_mostSaved 77 = .ok (.iload 5, 2) := by decide +kernel
theorem dX0_mostSaved_79 : decode cX0_mostSaved 79 = .ok (.aload_n 0, 1) := by decide +kernel
theorem dX0_mostSaved_80 : decode cX0_mostSaved 80 = .ok (.getfield 34, 3) := by decide +kernel
theorem dX0_mostSaved_83 : decode cX0_mostSaved 83 = .ok (.iload 8, 2) := by decide +kernel
theorem dX0_mostSaved_85 : decode cX0_mostSaved 85 = .ok (.iaload, 1) := by decide +kernel
theorem dX0_mostSaved_86 : decode cX0_mostSaved 86 = .ok (.aload_n 0, 1) := by decide +kernel
theorem dX0_mostSaved_87 : decode cX0_mostSaved 87 = .ok (.aload_n 0, 1) := by decide +kernel
theorem dX0_mostSaved_88 : decode cX0_mostSaved 88 = .ok (.getfield 31, 3) := by decide +kernel
theorem dX0_mostSaved_91 : decode cX0_mostSaved 91 = .ok (.iload 8, 2) := by decide +kernel
theorem dX0_mostSaved_93 : decode cX0_mostSaved 93 = .ok (.iaload, 1) := by decide +kernel
theorem dX0_mostSaved_94 : decode cX0_mostSaved 94 = .ok (.iload 6, 2) := by decide +kernel
theorem dX0_mostSaved_96 : decode cX0_mostSaved 96 = .ok (.invokevirtual 140, 3) := by decide +kernel
theorem dX0_mostSaved_99 : decode cX0_mostSaved 99 = .ok (.iadd, 1) := by decide +kernel
theorem dX0_mostSaved_100 : decode cX0_mostSaved 100 = .ok (.invokestatic 131, 3) := by decide +kernel
theorem dX0_mostSaved_103 : decode cX0_mostSaved 103 = .ok (.istore 5, 2) := by decide +kernel
theorem dX0_mostSaved_105 : decode cX0_mostSaved 105 = .ok (.aload_n 0, 1) := by decide +kernel
theorem dX0_mostSaved_106 : decode cX0_mostSaved 106 = .ok (.getfield 40, 3) := by decide +kernel
theorem dX0_mostSaved_109 : decode cX0_mostSaved 109 = .ok (.iload 6, 2) := by decide +kernel
theorem dX0_mostSaved_111 : decode cX0_mostSaved 111 = .ok (.aload_n 0, 1) := by decide +kernel
theorem dX0_mostSaved_112 : decode cX0_mostSaved 112 = .ok (.getfield 28, 3) := by decide +kernel
theorem dX0_mostSaved_115 : decode cX0_mostSaved 115 = .ok (.iload 8, 2) := by decide +kernel
theorem dX0_mostSaved_117 : decode cX0_mostSaved 117 = .ok (.iaload, 1) := by decide +kernel
theorem dX0_mostSaved_118 : decode cX0_mostSaved 118 = .ok (.iastore, 1) := by decide +kernel
theorem dX0_mostSaved_119 : decode cX0_mostSaved 119 = .ok (.aload_n 0, 1) := by decide +kernel
theorem dX0_mostSaved_120 : decode cX0_mostSaved 120 = .ok (.getfield 43, 3) := by decide +kernel
theorem dX0_mostSaved_123 : decode cX0_mostSaved 123 = .ok (.iload 6, 2) := by decide +kernel
theorem dX0_mostSaved_125 : decode cX0_mostSaved 125 = .ok (.iload 5, 2) := by decide +kernel
theorem dX0_mostSaved_127 : decode cX0_mostSaved 127 = .ok (.iastore, 1) := by decide +kernel
theorem dX0_mostSaved_128 : decode cX0_mostSaved 128 = .ok (.iload 7, 2) := by decide +kernel
theorem dX0_mostSaved_130 : decode cX0_mostSaved 130 = .ok (.ifCond .eq 13, 3) := by decide +kernel
theorem dX0_mostSaved_133 : decode cX0_mostSaved 133 = .ok (.aload_n 0, 1) := by decide +kernel
theorem dX0_mostSaved_134 : decode cX0_mostSaved 134 = .ok (.getfield 37, 3) := by decide +kernel
theorem dX0_mostSaved_137 : decode cX0_mostSaved 137 = .ok (.iload_n 3, 1) := by decide +kernel
theorem dX0_mostSaved_138 : decode cX0_mostSaved 138 = .ok (.iaload, 1) := by decide +kernel
theorem dX0_mostSaved_139 : decode cX0_mostSaved 139 = .ok (.istore_n 3, 1) := by decide +kernel
theorem dX0_mostSaved_140 : decode cX0_mostSaved 140 = .ok (.goto 12, 3) := by decide +kernel
theorem dX0_mostSaved_143 : decode cX0_mostSaved 143 = .ok (.aload_n 0, 1) := by decide +kernel
theorem dX0_mostSaved_144 : decode cX0_mostSaved 144 = .ok (.getfield 37, 3) := by decide +kernel
theorem dX0_mostSaved_147 : decode cX0_mostSaved 147 = .ok (.iload 4, 2) := by decide +kernel
theorem dX0_mostSaved_149 : decode cX0_mostSaved 149 = .ok (.iaload, 1) := by decide +kernel
theorem dX0_mostSaved_150 : decode cX0_mostSaved 150 = .ok (.istore 4, 2) := by decide +kernel
theorem dX0_mostSaved_152 : decode cX0_mostSaved 152 = .ok (.iinc 6 1, 3) := by decide +kernel
theorem dX0_mostSaved_155 : decode cX0_mostSaved 155 = .ok (.goto (-144), 3) := by decide +kernel
theorem dX0_mostSaved_158 : decode cX0_mostSaved 158 = .ok (.iload 5, 2) := by decide +kernel
theorem dX0_mostSaved_160 : decode cX0_mostSaved 160 = .ok (.ireturn, 1) := by decide +kernel
theorem dX0_savedFrom_0 : decode cX0_savedFrom 0 = .ok (.iload_n 2, 1) := by decide +kernel
theorem dX0_savedFrom_1 : decode cX0_savedFrom 1 = .ok (.iconst 1, 1) := by decide +kernel
theorem dX0_savedFrom_2 : decode cX0_savedFrom 2 = .ok (.isub, 1) := by decide +kernel
theorem dX0_savedFrom_3 : decode cX0_savedFrom 3 = .ok (.istore_n 3, 1) := by decide +kernel
theorem dX0_savedFrom_4 : decode cX0_savedFrom 4 = .ok (.iload_n 3, 1) := by decide +kernel
theorem dX0_savedFrom_5 : decode cX0_savedFrom 5 = .ok (.ifCond .lt 26, 3) := by decide +kernel
theorem dX0_savedFrom_8 : decode cX0_savedFrom 8 = .ok (.aload_n 0, 1) := by decide +kernel
theorem dX0_savedFrom_9 : decode cX0_savedFrom 9 = .ok (.getfield 40, 3) := by decide +kernel
theorem dX0_savedFrom_12 : decode cX0_savedFrom 12 = .ok (.iload_n 3, 1) := by decide +kernel
theorem dX0_savedFrom_13 : decode cX0_savedFrom 13 = .ok (.iaload, 1) := by decide +kernel
theorem dX0_savedFrom_14 : decode cX0_savedFrom 14 = .ok (.iload_n 1, 1) := by decide +kernel
theorem dX0_savedFrom_15 : decode cX0_savedFrom 15 = .ok (.if_icmp .lt 10, 3) := by decide +kernel
theorem dX0_savedFrom_18 : decode cX0_savedFrom 18 = .ok (.aload_n 0, 1) := by decide +kernel
theorem dX0_savedFrom_19 : decode cX0_savedFrom 19 = .ok (.getfield 43, 3) := by decide +kernel
theorem dX0_savedFrom_22 : decode cX0_savedFrom 22 = .ok (.iload_n 3, 1) := by decide +kernel
theorem dX0_savedFrom_23 : decode cX0_savedFrom 23 = .ok (.iaload, 1) := by decide +kernel
theorem dX0_savedFrom_24 : decode cX0_savedFrom 24 = .ok (.ireturn, 1) := by decide +kernel
theorem dX0_savedFrom_25 : decode cX0_savedFrom 25 = .ok (.iinc 3 (-1), 3) := by decide +kernel
theorem dX0_savedFrom_28 : decode cX0_savedFrom 28 = .ok (.goto (-24), 3) := by decide +kernel
theorem dX0_savedFrom_31 : decode cX0_savedFrom 31 = .ok (.iconst 0, 1) := by decide +kernel
theorem dX0_savedFrom_32 : decode cX0_savedFrom 32 = .ok (.ireturn, 1) := by decide +kernel
theorem dX1_isOne_0 : decode cX1_isOne 0 = .ok (.iload_n 0, 1) := by decide +kernel
theorem dX1_isOne_1 : decode cX1_isOne 1 = .ok (.ifCond .lt 13, 3) := by decide +kernel
theorem dX1_isOne_4 : decode cX1_isOne 4 = .ok (.iload_n 0, 1) := by decide +kernel
theorem dX1_isOne_5 : decode cX1_isOne 5 = .ok (.bipush 16, 2) := by decide +kernel
theorem dX1_isOne_7 : decode cX1_isOne 7 = .ok (.if_icmp .ge 7, 3) := by decide +kernel
theorem dX1_isOne_10 : decode cX1_isOne 10 = .ok (.iconst 1, 1) := by decide +kernel
theorem dX1_isOne_11 : decode cX1_isOne 11 = .ok (.goto 4, 3) := by decide +kernel
theorem dX1_isOne_14 : decode cX1_isOne 14 = .ok (.iconst 0, 1) := by decide +kernel
theorem dX1_isOne_15 : decode cX1_isOne 15 = .ok (.ireturn, 1) := by decide +kernel
theorem dX1_hasArgument_0 : decode cX1_hasArgument 0 = .ok (.getstatic 9, 3) := by decide +kernel
theorem dX1_hasArgument_3 : decode cX1_hasArgument 3 = .ok (.iload_n 0, 1) := by decide +kernel
theorem dX1_hasArgument_4 : decode cX1_hasArgument 4 = .ok (.iaload, 1) := by decide +kernel
theorem dX1_hasArgument_5 : decode cX1_hasArgument 5 = .ok (.ifCond .le 7, 3) := by decide +kernel
theorem dX1_hasArgument_8 : decode cX1_hasArgument 8 = .ok (.iconst 1, 1) := by decide +kernel
theorem dX1_hasArgument_9 : decode cX1_hasArgument 9 = .ok (.goto 4, 3) := by decide +kernel
theorem dX1_hasArgument_12 : decode cX1_hasArgument 12 = .ok (.iconst 0, 1) := by decide +kernel
theorem dX1_hasArgument_13 : decode cX1_hasArgument 13 = .ok (.ireturn, 1) := by decide +kernel
theorem dX1_fits_0 : decode cX1_fits 0 = .ok (.iload_n 1, 1) := by decide +kernel
theorem dX1_fits_1 : decode cX1_fits 1 = .ok (.getstatic 13, 3) := by decide +kernel
theorem dX1_fits_4 : decode cX1_fits 4 = .ok (.iload_n 0, 1) := by decide +kernel
theorem dX1_fits_5 : decode cX1_fits 5 = .ok (.iaload, 1) := by decide +kernel
theorem dX1_fits_6 : decode cX1_fits 6 = .ok (.if_icmp .lt 16, 3) := by decide +kernel
theorem dX1_fits_9 : decode cX1_fits 9 = .ok (.iload_n 1, 1) := by decide +kernel
theorem dX1_fits_10 : decode cX1_fits 10 = .ok (.getstatic 9, 3) := by decide +kernel
theorem dX1_fits_13 : decode cX1_fits 13 = .ok (.iload_n 0, 1) := by decide +kernel
theorem dX1_fits_14 : decode cX1_fits 14 = .ok (.iaload, 1) := by decide +kernel
theorem dX1_fits_15 : decode cX1_fits 15 = .ok (.if_icmp .gt 7, 3) := by decide +kernel
theorem dX1_fits_18 : decode cX1_fits 18 = .ok (.iconst 1, 1) := by decide +kernel
theorem dX1_fits_19 : decode cX1_fits 19 = .ok (.goto 4, 3) := by decide +kernel
theorem dX1_fits_22 : decode cX1_fits 22 = .ok (.iconst 0, 1) := by decide +kernel
theorem dX1_fits_23 : decode cX1_fits 23 = .ok (.ireturn, 1) := by decide +kernel
theorem dX1_leads_0 : decode cX1_leads 0 = .ok (.iload_n 0, 1) := by decide +kernel
theorem dX1_leads_1 : decode cX1_leads 1 = .ok (.bipush 9, 2) := by decide +kernel
theorem dX1_leads_3 : decode cX1_leads 3 = .ok (.if_icmp .eq 9, 3) := by decide +kernel
theorem dX1_leads_6 : decode cX1_leads 6 = .ok (.iload_n 0, 1) := by decide +kernel
theorem dX1_leads_7 : decode cX1_leads 7 = .ok (.bipush 10, 2) := by decide +kernel
theorem dX1_leads_9 : decode cX1_leads 9 = .ok (.if_icmp .ne 7, 3) := by decide +kernel
theorem dX1_leads_12 : decode cX1_leads 12 = .ok (.iconst 1, 1) := by decide +kernel
theorem dX1_leads_13 : decode cX1_leads 13 = .ok (.goto 4, 3) := by decide +kernel
theorem dX1_leads_16 : decode cX1_leads 16 = .ok (.iconst 0, 1) := by decide +kernel
theorem dX1_leads_17 : decode cX1_leads 17 = .ok (.ireturn, 1) := by decide +kernel
theorem dX1_isLastAlone_0 : decode cX1_isLastAlone 0 = .ok (.iload_n 0, 1) := by decide +kernel
theorem dX1_isLastAlone_1 : decode cX1_isLastAlone 1 = .ok (.invokestatic 16, 3) := by decide +kernel
theorem dX1_isLastAlone_4 : decode cX1_isLastAlone 4 = .ok (.ifCond .ne 9, 3) := by decide +kernel
theorem dX1_isLastAlone_7 : decode cX1_isLastAlone 7 = .ok (.iload_n 0, 1) := by decide +kernel
theorem dX1_isLastAlone_8 : decode cX1_isLastAlone 8 = .ok (.bipush 13, 2) := by decide +kernel
theorem dX1_isLastAlone_10 : decode cX1_isLastAlone 10 = .ok (.if_icmp .ne 7, 3) := by decide +kernel
theorem dX1_isLastAlone_13 : decode cX1_isLastAlone 13 = .ok (.iconst 1, 1) := by decide +kernel
theorem dX1_isLastAlone_14 : decode cX1_isLastAlone 14 = .ok (.goto 4, 3) := by decide +kernel
theorem dX1_isLastAlone_17 : decode cX1_isLastAlone 17 = .ok (.iconst 0, 1) := by decide +kernel
theorem dX1_isLastAlone_18 : decode cX1_isLastAlone 18 = .ok (.ireturn, 1) := by decide +kernel
theorem dX2_init_0 : decode cX2_init 0 = .ok (.aload_n 0, 1) := by decide +kernel
theorem dX2_init_1 : decode cX2_init 1 = .ok (.invokespecial 5, 3) := by decide +kernel
theorem dX2_init_4 : decode cX2_init 4 = .ok (.aload_n 0, 1) := by decide +kernel
theorem dX2_init_5 : decode cX2_init 5 = .ok (.new 1, 3) := by decide +kernel
theorem dX2_init_8 : decode cX2_init 8 = .ok (.dup, 1) := by decide +kernel
theorem dX2_init_9 : decode cX2_init 9 = .ok (.invokespecial 11, 3) := by decide +kernel
theorem dX2_init_12 : decode cX2_init 12 = .ok (.putfield 12, 3) := by decide +kernel
theorem dX2_init_15 : decode cX2_init 15 = .ok (.aload_n 0, 1) := by decide +kernel
theorem dX2_init_16 : decode cX2_init 16 = .ok (.bipush 40, 2) := by decide +kernel
theorem dX2_init_18 : decode cX2_init 18 = .ok (.newarray .int, 2) := by decide +kernel
theorem dX2_init_20 : decode cX2_init 20 = .ok (.putfield 18, 3) := by decide +kernel
theorem dX2_init_23 : decode cX2_init 23 = .ok (.aload_n 0, 1) := by decide +kernel
theorem dX2_init_24 : decode cX2_init 24 = .ok (.bipush 40, 2) := by decide +kernel
theorem dX2_init_26 : decode cX2_init 26 = .ok (.newarray .int, 2) := by decide +kernel
theorem dX2_init_28 : decode cX2_init 28 = .ok (.putfield 22, 3) := by decide +kernel
theorem dX2_init_31 : decode cX2_init 31 = .ok (.aload_n 0, 1) := by decide +kernel
theorem dX2_init_32 : decode cX2_init 32 = .ok (.bipush 40, 2) := by decide +kernel
theorem dX2_init_34 : decode cX2_init 34 = .ok (.newarray .int, 2) := by decide +kernel
theorem dX2_init_36 : decode cX2_init 36 = .ok (.putfield 25, 3) := by decide +kernel
theorem dX2_init_39 : decode cX2_init 39 = .ok (.aload_n 0, 1) := by decide +kernel
theorem dX2_init_40 : decode cX2_init 40 = .ok (.bipush 80, 2) := by decide +kernel
theorem dX2_init_42 : decode cX2_init 42 = .ok (.newarray .int, 2) := by decide +kernel
theorem dX2_init_44 : decode cX2_init 44 = .ok (.putfield 28, 3) := by decide +kernel
theorem dX2_init_47 : decode cX2_init 47 = .ok (.aload_n 0, 1) := by decide +kernel
theorem dX2_init_48 : decode cX2_init 48 = .ok (.bipush 40, 2) := by decide +kernel
theorem dX2_init_50 : decode cX2_init 50 = .ok (.newarray .int, 2) := by decide +kernel
theorem dX2_init_52 : decode cX2_init 52 = .ok (.putfield 31, 3) := by decide +kernel
theorem dX2_init_55 : decode cX2_init 55 = .ok (.return_, 1) := by decide +kernel
theorem dX2_hasCode_0 : decode cX2_hasCode 0 = .ok (.aload_n 0, 1) := by decide +kernel
theorem dX2_hasCode_1 : decode cX2_hasCode 1 = .ok (.getfield 34, 3) := by decide +kernel
theorem dX2_hasCode_4 : decode cX2_hasCode 4 = .ok (.ifCond .eq 19, 3) := by decide +kernel
theorem dX2_hasCode_7 : decode cX2_hasCode 7 = .ok (.iload_n 1, 1) := by decide +kernel
theorem dX2_hasCode_8 : decode cX2_hasCode 8 = .ok (.ifCond .lt 15, 3) := by decide +kernel
theorem dX2_hasCode_11 : decode cX2_hasCode 11 = .ok (.iload_n 1, 1) := by decide +kernel
theorem dX2_hasCode_12 : decode cX2_hasCode 12 = .ok (.aload_n 0, 1) := by decide +kernel
theorem dX2_hasCode_13 : decode cX2_hasCode 13 = .ok (.getfield 38, 3) := by decide +kernel
theorem dX2_hasCode_16 : decode cX2_hasCode 16 = .ok (.if_icmp .ge 7, 3) := by decide +kernel
theorem dX2_hasCode_19 : decode cX2_hasCode 19 = .ok (.iconst 1, 1) := by decide +kernel
theorem dX2_hasCode_20 : decode cX2_hasCode 20 = .ok (.goto 4, 3) := by decide +kernel
theorem dX2_hasCode_23 : decode cX2_hasCode 23 = .ok (.iconst 0, 1) := by decide +kernel
theorem dX2_hasCode_24 : decode cX2_hasCode 24 = .ok (.ireturn, 1) := by decide +kernel
theorem dX2_hasByte_0 : decode cX2_hasByte 0 = .ok (.aload_n 0, 1) := by decide +kernel
theorem dX2_hasByte_1 : decode cX2_hasByte 1 = .ok (.getfield 34, 3) := by decide +kernel
theorem dX2_hasByte_4 : decode cX2_hasByte 4 = .ok (.ifCond .eq 19, 3) := by decide +kernel
theorem dX2_hasByte_7 : decode cX2_hasByte 7 = .ok (.iload_n 1, 1) := by decide +kernel
theorem dX2_hasByte_8 : decode cX2_hasByte 8 = .ok (.ifCond .lt 15, 3) := by decide +kernel
theorem dX2_hasByte_11 : decode cX2_hasByte 11 = .ok (.iload_n 1, 1) := by decide +kernel
theorem dX2_hasByte_12 : decode cX2_hasByte 12 = .ok (.aload_n 0, 1) := by decide +kernel
theorem dX2_hasByte_13 : decode cX2_hasByte 13 = .ok (.getfield 42, 3) := by decide +kernel
theorem dX2_hasByte_16 : decode cX2_hasByte 16 = .ok (.if_icmp .ge 7, 3) := by decide +kernel
theorem dX2_hasByte_19 : decode cX2_hasByte 19 = .ok (.iconst 1, 1) := by decide +kernel
theorem dX2_hasByte_20 : decode cX2_hasByte 20 = .ok (.goto 4, 3) := by decide +kernel
theorem dX2_hasByte_23 : decode cX2_hasByte 23 = .ok (.iconst 0, 1) := by decide +kernel
theorem dX2_hasByte_24 : decode cX2_hasByte 24 = .ok (.ireturn, 1) := by decide +kernel
theorem dX2_beginsAt_0 : decode cX2_beginsAt 0 = .ok (.aload_n 0, 1) := by decide +kernel
theorem dX2_beginsAt_1 : decode cX2_beginsAt 1 = .ok (.getfield 31, 3) := by decide +kernel
theorem dX2_beginsAt_4 : decode cX2_beginsAt 4 = .ok (.iload_n 1, 1) := by decide +kernel
theorem dX2_beginsAt_5 : decode cX2_beginsAt 5 = .ok (.iaload, 1) := by decide +kernel
theorem dX2_beginsAt_6 : decode cX2_beginsAt 6 = .ok (.iconst (-1), 1) := by decide +kernel
theorem dX2_beginsAt_7 : decode cX2_beginsAt 7 = .ok (.if_icmp .eq 7, 3) := by decide +kernel
theorem dX2_beginsAt_10 : decode cX2_beginsAt 10 = .ok (.iconst 1, 1) := by decide +kernel
theorem dX2_beginsAt_11 : decode cX2_beginsAt 11 = .ok (.goto 4, 3) := by decide +kernel
theorem dX2_beginsAt_14 : decode cX2_beginsAt 14 = .ok (.iconst 0, 1) := by decide +kernel
theorem dX2_beginsAt_15 : decode cX2_beginsAt 15 = .ok (.ireturn, 1) := by decide +kernel
theorem dX2_make_0 : decode cX2_make 0 = .ok (.aload_n 0, 1) := by decide +kernel
theorem dX2_make_1 : decode cX2_make 1 = .ok (.iconst 1, 1) := by decide +kernel
theorem dX2_make_2 : decode cX2_make 2 = .ok (.putfield 34, 3) := by decide +kernel
theorem dX2_make_5 : decode cX2_make 5 = .ok (.aload_n 0, 1) := by decide +kernel
theorem dX2_make_6 : decode cX2_make 6 = .ok (.getfield 12, 3) := by decide +kernel
theorem dX2_make_9 : decode cX2_make 9 = .ok (.aload_n 1, 1) := by decide +kernel
theorem dX2_make_10 : decode cX2_make 10 = .ok (.invokevirtual 45, 3) := by decide +kernel
theorem dX2_make_13 : decode cX2_make 13 = .ok (.aload_n 0, 1) := by decide +kernel
theorem dX2_make_14 : decode cX2_make 14 = .ok (.iconst 0, 1) := by decide +kernel
theorem dX2_make_15 : decode cX2_make 15 = .ok (.putfield 38, 3) := by decide +kernel
theorem dX2_make_18 : decode cX2_make 18 = .ok (.aload_n 0, 1) := by decide +kernel
theorem dX2_make_19 : decode cX2_make 19 = .ok (.iconst 0, 1) := by decide +kernel
theorem dX2_make_20 : decode cX2_make 20 = .ok (.putfield 42, 3) := by decide +kernel
theorem dX2_make_23 : decode cX2_make 23 = .ok (.iconst 0, 1) := by decide +kernel
theorem dX2_make_24 : decode cX2_make 24 = .ok (.istore_n 3, 1) := by decide +kernel
theorem dX2_make_25 : decode cX2_make 25 = .ok (.iconst 0, 1) := by decide +kernel
theorem dX2_make_26 : decode cX2_make 26 = .ok (.istore 4, 2) := by decide +kernel
theorem dX2_make_28 : decode cX2_make 28 = .ok (.iload 4, 2) := by decide +kernel
theorem dX2_make_30 : decode cX2_make 30 = .ok (.aload_n 0, 1) := by decide +kernel
theorem dX2_make_31 : decode cX2_make 31 = .ok (.getfield 12, 3) := by decide +kernel
theorem dX2_make_34 : decode cX2_make 34 = .ok (.getfield 49, 3) := by decide +kernel
theorem dX2_make_37 : decode cX2_make 37 = .ok (.if_icmp .ge 96, 3) := by decide +kernel
theorem dX2_make_40 : decode cX2_make 40 = .ok (.aload_n 0, 1) := by decide +kernel
theorem dX2_make_41 : decode cX2_make 41 = .ok (.getfield 31, 3) := by decide +kernel
theorem dX2_make_44 : decode cX2_make 44 = .ok (.iload 4, 2) := by decide +kernel
theorem dX2_make_46 : decode cX2_make 46 = .ok (.iload 4, 2) := by decide +kernel
theorem dX2_make_48 : decode cX2_make 48 = .ok (.iload_n 3, 1) := by decide +kernel
theorem dX2_make_49 : decode cX2_make 49 = .ok (.if_icmp .ne 10, 3) := by decide +kernel
theorem dX2_make_52 : decode cX2_make 52 = .ok (.aload_n 0, 1) := by decide +kernel
theorem dX2_make_53 : decode cX2_make 53 = .ok (.getfield 38, 3) := by decide +kernel
theorem dX2_make_56 : decode cX2_make 56 = .ok (.goto 4, 3) := by decide +kernel
theorem dX2_make_59 : decode cX2_make 59 = .ok (.iconst (-1), 1) := by decide +kernel
theorem dX2_make_60 : decode cX2_make 60 = .ok (.iastore, 1) := by decide +kernel
theorem dX2_make_61 : decode cX2_make 61 = .ok (.iload 4, 2) := by decide +kernel
theorem dX2_make_63 : decode cX2_make 63 = .ok (.iload_n 3, 1) := by decide +kernel
theorem dX2_make_64 : decode cX2_make 64 = .ok (.if_icmp .ne 33, 3) := by decide +kernel
theorem dX2_make_67 : decode cX2_make 67 = .ok (.aload_n 0, 1) := by decide +kernel
theorem dX2_make_68 : decode cX2_make 68 = .ok (.iload 4, 2) := by decide +kernel
theorem dX2_make_70 : decode cX2_make 70 = .ok (.aload_n 2, 1) := by decide +kernel
theorem dX2_make_71 : decode cX2_make 71 = .ok (.getfield 52, 3) := by decide +kernel
theorem dX2_make_74 : decode cX2_make 74 = .ok (.iload 4, 2) := by decide +kernel
theorem dX2_make_76 : decode cX2_make 76 = .ok (.iaload, 1) := by decide +kernel
theorem dX2_make_77 : decode cX2_make 77 = .ok (.aload_n 2, 1) := by decide +kernel
theorem dX2_make_78 : decode cX2_make 78 = .ok (.getfield 55, 3) := by decide +kernel
theorem dX2_make_81 : decode cX2_make 81 = .ok (.iload 4, 2) := by decide +kernel
theorem dX2_make_83 : decode cX2_make 83 = .ok (.iaload, 1) := by decide +kernel
theorem dX2_make_84 : decode cX2_make 84 = .ok (.invokevirtual 56, 3) := by decide +kernel
theorem dX2_make_87 : decode cX2_make 87 = .ok (.iload_n 3, 1) := by decide +kernel
theorem dX2_make_88 : decode cX2_make 88 = .ok (.aload_n 2, 1) := by decide +kernel
theorem dX2_make_89 : decode cX2_make 89 = .ok (.getfield 55, 3) := by decide +kernel
theorem dX2_make_92 : decode cX2_make 92 = .ok (.iload 4, 2) := by decide +kernel
theorem dX2_make_94 : decode cX2_make 94 = .ok (.iaload, 1) := by decide +kernel
theorem dX2_make_95 : decode cX2_make 95 = .ok (.iadd, 1) := by decide +kernel
theorem dX2_make_96 : decode cX2_make 96 = .ok (.istore_n 3, 1) := by decide +kernel
theorem dX2_make_97 : decode cX2_make 97 = .ok (.aload_n 0, 1) := by decide +kernel
theorem dX2_make_98 : decode cX2_make 98 = .ok (.getfield 12, 3) := by decide +kernel
theorem dX2_make_101 : decode cX2_make 101 = .ok (.getfield 60, 3) := by decide +kernel
theorem dX2_make_104 : decode cX2_make 104 = .ok (.iload 4, 2) := by decide +kernel
theorem dX2_make_106 : decode cX2_make 106 = .ok (.iaload, 1) := by decide +kernel
theorem dX2_make_107 : decode cX2_make 107 = .ok (.invokestatic 63, 3) := by decide +kernel
theorem dX2_make_110 : decode cX2_make 110 = .ok (.ifCond .eq 17, 3) := by decide +kernel
theorem dX2_make_113 : decode cX2_make 113 = .ok (.aload_n 0, 1) := by decide +kernel
theorem dX2_make_114 : decode cX2_make 114 = .ok (.aload_n 0, 1) := by decide +kernel
theorem dX2_make_115 : decode cX2_make 115 = .ok (.getfield 12, 3) := by decide +kernel
theorem dX2_make_118 : decode cX2_make 118 = .ok (.getfield 69, 3) := by decide +kernel
theorem dX2_make_121 : decode cX2_make 121 = .ok (.iload 4, 2) := by decide +kernel
theorem dX2_make_123 : decode cX2_make 123 = .ok (.iaload, 1) := by decide +kernel
theorem dX2_make_124 : decode cX2_make 124 = .ok (.invokevirtual 72, 3) := by decide +kernel
theorem dX2_make_127 : decode cX2_make 127 = .ok (.iinc 4 1, 3) := by decide +kernel
theorem dX2_make_130 : decode cX2_make 130 = .ok (.goto (-102), 3) := by decide +kernel
theorem dX2_make_133 : decode cX2_make 133 = .ok (.return_, 1) := by decide +kernel
theorem dX2_beginCode_0 : decode cX2_beginCode 0 = .ok (.aload_n 0, 1) := by decide +kernel
theorem dX2_beginCode_1 : decode cX2_beginCode 1 = .ok (.getfield 18, 3) := by decide +kernel
theorem dX2_beginCode_4 : decode cX2_beginCode 4 = .ok (.aload_n 0, 1) := by decide +kernel
theorem dX2_beginCode_5 : decode cX2_beginCode 5 = .ok (.getfield 38, 3) := by decide +kernel
theorem dX2_beginCode_8 : decode cX2_beginCode 8 = .ok (.iload_n 2, 1) := by decide +kernel
theorem dX2_beginCode_9 : decode cX2_beginCode 9 = .ok (.iastore, 1) := by decide +kernel
theorem dX2_beginCode_10 : decode cX2_beginCode 10 = .ok (.aload_n 0, 1) := by decide +kernel
theorem dX2_beginCode_11 : decode cX2_beginCode 11 = .ok (.getfield 22, 3) := by decide +kernel
theorem dX2_beginCode_14 : decode cX2_beginCode 14 = .ok (.aload_n 0, 1) := by decide +kernel
theorem dX2_beginCode_15 : decode cX2_beginCode 15 = .ok (.getfield 38, 3) := by decide +kernel
theorem dX2_beginCode_18 : decode cX2_beginCode 18 = .ok (.iload_n 1, 1) := by decide +kernel
theorem dX2_beginCode_19 : decode cX2_beginCode 19 = .ok (.iastore, 1) := by decide +kernel
theorem dX2_beginCode_20 : decode cX2_beginCode 20 = .ok (.aload_n 0, 1) := by decide +kernel
theorem dX2_beginCode_21 : decode cX2_beginCode 21 = .ok (.getfield 25, 3) := by decide +kernel
theorem dX2_beginCode_24 : decode cX2_beginCode 24 = .ok (.aload_n 0, 1) := by decide +kernel
theorem dX2_beginCode_25 : decode cX2_beginCode 25 = .ok (.getfield 38, 3) := by decide +kernel
theorem dX2_beginCode_28 : decode cX2_beginCode 28 = .ok (.iload_n 3, 1) := by decide +kernel
theorem dX2_beginCode_29 : decode cX2_beginCode 29 = .ok (.iastore, 1) := by decide +kernel
theorem dX2_beginCode_30 : decode cX2_beginCode 30 = .ok (.aload_n 0, 1) := by decide +kernel
theorem dX2_beginCode_31 : decode cX2_beginCode 31 = .ok (.dup, 1) := by decide +kernel
theorem dX2_beginCode_32 : decode cX2_beginCode 32 = .ok (.getfield 38, 3) := by decide +kernel
theorem dX2_beginCode_35 : decode cX2_beginCode 35 = .ok (.iconst 1, 1) := by decide +kernel
theorem dX2_beginCode_36 : decode cX2_beginCode 36 = .ok (.iadd, 1) := by decide +kernel
theorem dX2_beginCode_37 : decode cX2_beginCode 37 = .ok (.putfield 38, 3) := by decide +kernel
theorem dX2_beginCode_40 : decode cX2_beginCode 40 = .ok (.aload_n 0, 1) := by decide +kernel
theorem dX2_beginCode_41 : decode cX2_beginCode 41 = .ok (.iload_n 2, 1) := by decide +kernel
theorem dX2_beginCode_42 : decode cX2_beginCode 42 = .ok (.invokevirtual 72, 3) := by decide +kernel
theorem dX2_beginCode_45 : decode cX2_beginCode 45 = .ok (.return_, 1) := by decide +kernel
theorem dX2_write_0 : decode cX2_write 0 = .ok (.aload_n 0, 1) := by decide +kernel
theorem dX2_write_1 : decode cX2_write 1 = .ok (.getfield 28, 3) := by decide +kernel
theorem dX2_write_4 : decode cX2_write 4 = .ok (.aload_n 0, 1) := by decide +kernel
theorem dX2_write_5 : decode cX2_write 5 = .ok (.getfield 42, 3) := by decide +kernel
theorem dX2_write_8 : decode cX2_write 8 = .ok (.iload_n 1, 1) := by decide +kernel
theorem dX2_write_9 : decode cX2_write 9 = .ok (.sipush 255, 3) := by decide +kernel
theorem dX2_write_12 : decode cX2_write 12 = .ok (.iand, 1) := by decide +kernel
theorem dX2_write_13 : decode cX2_write 13 = .ok (.iastore, 1) := by decide +kernel
theorem dX2_write_14 : decode cX2_write 14 = .ok (.aload_n 0, 1) := by decide +kernel
theorem dX2_write_15 : decode cX2_write 15 = .ok (.dup, 1) := by decide +kernel
theorem dX2_write_16 : decode cX2_write 16 = .ok (.getfield 42, 3) := by decide +kernel
theorem dX2_write_19 : decode cX2_write 19 = .ok (.iconst 1, 1) := by decide +kernel
theorem dX2_write_20 : decode cX2_write 20 = .ok (.iadd, 1) := by decide +kernel
theorem dX2_write_21 : decode cX2_write 21 = .ok (.putfield 42, 3) := by decide +kernel
theorem dX2_write_24 : decode cX2_write 24 = .ok (.return_, 1) := by decide +kernel
theorem dX2_copyFrom_0 : decode cX2_copyFrom 0 = .ok (.aload_n 0, 1) := by decide +kernel
theorem dX2_copyFrom_1 : decode cX2_copyFrom 1 = .ok (.aload_n 1, 1) := by decide +kernel
theorem dX2_copyFrom_2 : decode cX2_copyFrom 2 = .ok (.getfield 34, 3) := by decide +kernel
theorem dX2_copyFrom_5 : decode cX2_copyFrom 5 = .ok (.putfield 34, 3) := by decide +kernel
theorem dX2_copyFrom_8 : decode cX2_copyFrom 8 = .ok (.aload_n 0, 1) := by decide +kernel
theorem dX2_copyFrom_9 : decode cX2_copyFrom 9 = .ok (.getfield 12, 3) := by decide +kernel
theorem dX2_copyFrom_12 : decode cX2_copyFrom 12 = .ok (.aload_n 1, 1) := by decide +kernel
theorem dX2_copyFrom_13 : decode cX2_copyFrom 13 = .ok (.getfield 12, 3) := by decide +kernel
theorem dX2_copyFrom_16 : decode cX2_copyFrom 16 = .ok (.invokevirtual 45, 3) := by decide +kernel
theorem dX2_copyFrom_19 : decode cX2_copyFrom 19 = .ok (.aload_n 0, 1) := by decide +kernel
theorem dX2_copyFrom_20 : decode cX2_copyFrom 20 = .ok (.aload_n 1, 1) := by decide +kernel
theorem dX2_copyFrom_21 : decode cX2_copyFrom 21 = .ok (.getfield 38, 3) := by decide +kernel
theorem dX2_copyFrom_24 : decode cX2_copyFrom 24 = .ok (.putfield 38, 3) := by decide +kernel
theorem dX2_copyFrom_27 : decode cX2_copyFrom 27 = .ok (.aload_n 1, 1) := by decide +kernel
theorem dX2_copyFrom_28 : decode cX2_copyFrom 28 = .ok (.getfield 18, 3) := by decide +kernel
theorem dX2_copyFrom_31 : decode cX2_copyFrom 31 = .ok (.iconst 0, 1) := by decide +kernel
theorem dX2_copyFrom_32 : decode cX2_copyFrom 32 = .ok (.aload_n 0, 1) := by decide +kernel
theorem dX2_copyFrom_33 : decode cX2_copyFrom 33 = .ok (.getfield 18, 3) := by decide +kernel
theorem dX2_copyFrom_36 : decode cX2_copyFrom 36 = .ok (.iconst 0, 1) := by decide +kernel
theorem dX2_copyFrom_37 : decode cX2_copyFrom 37 = .ok (.bipush 40, 2) := by decide +kernel
theorem dX2_copyFrom_39 : decode cX2_copyFrom 39 = .ok (.invokestatic 76, 3) := by decide +kernel
theorem dX2_copyFrom_42 : decode cX2_copyFrom 42 = .ok (.aload_n 1, 1) := by decide +kernel
theorem dX2_copyFrom_43 : decode cX2_copyFrom 43 = .ok (.getfield 22, 3) := by decide +kernel
theorem dX2_copyFrom_46 : decode cX2_copyFrom 46 = .ok (.iconst 0, 1) := by decide +kernel
theorem dX2_copyFrom_47 : decode cX2_copyFrom 47 = .ok (.aload_n 0, 1) := by decide +kernel
theorem dX2_copyFrom_48 : decode cX2_copyFrom 48 = .ok (.getfield 22, 3) := by decide +kernel
theorem dX2_copyFrom_51 : decode cX2_copyFrom 51 = .ok (.iconst 0, 1) := by decide +kernel
theorem dX2_copyFrom_52 : decode cX2_copyFrom 52 = .ok (.bipush 40, 2) := by decide +kernel
theorem dX2_copyFrom_54 : decode cX2_copyFrom 54 = .ok (.invokestatic 76, 3) := by decide +kernel
theorem dX2_copyFrom_57 : decode cX2_copyFrom 57 = .ok (.aload_n 1, 1) := by decide +kernel
theorem dX2_copyFrom_58 : decode cX2_copyFrom 58 = .ok (.getfield 25, 3) := by decide +kernel
theorem dX2_copyFrom_61 : decode cX2_copyFrom 61 = .ok (.iconst 0, 1) := by decide +kernel
theorem dX2_copyFrom_62 : decode cX2_copyFrom 62 = .ok (.aload_n 0, 1) := by decide +kernel
theorem dX2_copyFrom_63 : decode cX2_copyFrom 63 = .ok (.getfield 25, 3) := by decide +kernel
theorem dX2_copyFrom_66 : decode cX2_copyFrom 66 = .ok (.iconst 0, 1) := by decide +kernel
theorem dX2_copyFrom_67 : decode cX2_copyFrom 67 = .ok (.bipush 40, 2) := by decide +kernel
theorem dX2_copyFrom_69 : decode cX2_copyFrom 69 = .ok (.invokestatic 76, 3) := by decide +kernel
theorem dX2_copyFrom_72 : decode cX2_copyFrom 72 = .ok (.aload_n 0, 1) := by decide +kernel
theorem dX2_copyFrom_73 : decode cX2_copyFrom 73 = .ok (.aload_n 1, 1) := by decide +kernel
theorem dX2_copyFrom_74 : decode cX2_copyFrom 74 = .ok (.getfield 42, 3) := by decide +kernel
theorem dX2_copyFrom_77 : decode cX2_copyFrom 77 = .ok (.putfield 42, 3) := by decide +kernel
theorem dX2_copyFrom_80 : decode cX2_copyFrom 80 = .ok (.aload_n 1, 1) := by decide +kernel
theorem dX2_copyFrom_81 : decode cX2_copyFrom 81 = .ok (.getfield 28, 3) := by decide +kernel
theorem dX2_copyFrom_84 : decode cX2_copyFrom 84 = .ok (.iconst 0, 1) := by decide +kernel
theorem dX2_copyFrom_85 : decode cX2_copyFrom 85 = .ok (.aload_n 0, 1) := by decide +kernel
theorem dX2_copyFrom_86 : decode cX2_copyFrom 86 = .ok (.getfield 28, 3) := by decide +kernel
theorem dX2_copyFrom_89 : decode cX2_copyFrom 89 = .ok (.iconst 0, 1) := by decide +kernel
theorem dX2_copyFrom_90 : decode cX2_copyFrom 90 = .ok (.bipush 80, 2) := by decide +kernel
theorem dX2_copyFrom_92 : decode cX2_copyFrom 92 = .ok (.invokestatic 76, 3) := by decide +kernel
theorem dX2_copyFrom_95 : decode cX2_copyFrom 95 = .ok (.aload_n 1, 1) := by decide +kernel
theorem dX2_copyFrom_96 : decode cX2_copyFrom 96 = .ok (.getfield 31, 3) := by decide +kernel
theorem dX2_copyFrom_99 : decode cX2_copyFrom 99 = .ok (.iconst 0, 1) := by decide +kernel
theorem dX2_copyFrom_100 : decode cX2_copyFrom 100 = .ok (.aload_n 0, 1) := by decide +kernel
theorem dX2_copyFrom_101 : decode cX2_copyFrom 101 = .ok (.getfield 31, 3) := by decide +kernel
theorem dX2_copyFrom_104 : decode cX2_copyFrom 104 = .ok (.iconst 0, 1) := by decide +kernel
theorem dX2_copyFrom_105 : decode cX2_copyFrom 105 = .ok (.bipush 40, 2) := by decide +kernel
theorem dX2_copyFrom_107 : decode cX2_copyFrom 107 = .ok (.invokestatic 76, 3) := by decide +kernel
theorem dX2_copyFrom_110 : decode cX2_copyFrom 110 = .ok (.return_, 1) := by decide +kernel
theorem dX3_init_0 : decode cX3_init 0 = .ok (.aload_n 0, 1) := by decide +kernel
theorem dX3_init_1 : decode cX3_init 1 = .ok (.invokespecial 1, 3) := by decide +kernel
theorem dX3_init_4 : decode cX3_init 4 = .ok (.aload_n 0, 1) := by decide +kernel
theorem dX3_init_5 : decode cX3_init 5 = .ok (.bipush 40, 2) := by decide +kernel
theorem dX3_init_7 : decode cX3_init 7 = .ok (.newarray .int, 2) := by decide +kernel
theorem dX3_init_9 : decode cX3_init 9 = .ok (.putfield 9, 3) := by decide +kernel
theorem dX3_init_12 : decode cX3_init 12 = .ok (.aload_n 0, 1) := by decide +kernel
theorem dX3_init_13 : decode cX3_init 13 = .ok (.bipush 40, 2) := by decide +kernel
theorem dX3_init_15 : decode cX3_init 15 = .ok (.newarray .int, 2) := by decide +kernel
theorem dX3_init_17 : decode cX3_init 17 = .ok (.putfield 13, 3) := by decide +kernel
theorem dX3_init_20 : decode cX3_init 20 = .ok (.aload_n 0, 1) := by decide +kernel
theorem dX3_init_21 : decode cX3_init 21 = .ok (.bipush 40, 2) := by decide +kernel
theorem dX3_init_23 : decode cX3_init 23 = .ok (.newarray .int, 2) := by decide +kernel
theorem dX3_init_25 : decode cX3_init 25 = .ok (.putfield 16, 3) := by decide +kernel
theorem dX3_init_28 : decode cX3_init 28 = .ok (.aload_n 0, 1) := by decide +kernel
theorem dX3_init_29 : decode cX3_init 29 = .ok (.bipush 40, 2) := by decide +kernel
theorem dX3_init_31 : decode cX3_init 31 = .ok (.newarray .int, 2) := by decide +kernel
theorem dX3_init_33 : decode cX3_init 33 = .ok (.putfield 19, 3) := by decide +kernel
theorem dX3_init_36 : decode cX3_init 36 = .ok (.return_, 1) := by decide +kernel
theorem dX3_clear_0 : decode cX3_clear 0 = .ok (.aload_n 0, 1) := by decide +kernel
theorem dX3_clear_1 : decode cX3_clear 1 = .ok (.iconst 0, 1) := by decide +kernel
theorem dX3_clear_2 : decode cX3_clear 2 = .ok (.putfield 22, 3) := by decide +kernel
theorem dX3_clear_5 : decode cX3_clear 5 = .ok (.aload_n 0, 1) := by decide +kernel
theorem dX3_clear_6 : decode cX3_clear 6 = .ok (.getfield 19, 3) := by decide +kernel
theorem dX3_clear_9 : decode cX3_clear 9 = .ok (.iconst 0, 1) := by decide +kernel
theorem dX3_clear_10 : decode cX3_clear 10 = .ok (.invokestatic 26, 3) := by decide +kernel
theorem dX3_clear_13 : decode cX3_clear 13 = .ok (.aload_n 0, 1) := by decide +kernel
theorem dX3_clear_14 : decode cX3_clear 14 = .ok (.invokevirtual 32, 3) := by decide +kernel
theorem dX3_clear_17 : decode cX3_clear 17 = .ok (.return_, 1) := by decide +kernel
theorem dX3_forgetRun_0 : decode cX3_forgetRun 0 = .ok (.aload_n 0, 1) := by decide +kernel
theorem dX3_forgetRun_1 : decode cX3_forgetRun 1 = .ok (.getfield 16, 3) := by decide +kernel
theorem dX3_forgetRun_4 : decode cX3_forgetRun 4 = .ok (.iconst 0, 1) := by decide +kernel
theorem dX3_forgetRun_5 : decode cX3_forgetRun 5 = .ok (.invokestatic 26, 3) := by decide +kernel
theorem dX3_forgetRun_8 : decode cX3_forgetRun 8 = .ok (.return_, 1) := by decide +kernel
theorem dX3_has_0 : decode cX3_has 0 = .ok (.iload_n 1, 1) := by decide +kernel
theorem dX3_has_1 : decode cX3_has 1 = .ok (.ifCond .lt 15, 3) := by decide +kernel
theorem dX3_has_4 : decode cX3_has 4 = .ok (.iload_n 1, 1) := by decide +kernel
theorem dX3_has_5 : decode cX3_has 5 = .ok (.aload_n 0, 1) := by decide +kernel
theorem dX3_has_6 : decode cX3_has 6 = .ok (.getfield 22, 3) := by decide +kernel
theorem dX3_has_9 : decode cX3_has 9 = .ok (.if_icmp .ge 7, 3) := by decide +kernel
theorem dX3_has_12 : decode cX3_has 12 = .ok (.iconst 1, 1) := by decide +kernel
theorem dX3_has_13 : decode cX3_has 13 = .ok (.goto 4, 3) := by decide +kernel
theorem dX3_has_16 : decode cX3_has 16 = .ok (.iconst 0, 1) := by decide +kernel
theorem dX3_has_17 : decode cX3_has 17 = .ok (.ireturn, 1) := by decide +kernel
theorem dX3_isLedTo_0 : decode cX3_isLedTo 0 = .ok (.aload_n 0, 1) := by decide +kernel
theorem dX3_isLedTo_1 : decode cX3_isLedTo 1 = .ok (.getfield 19, 3) := by decide +kernel
theorem dX3_isLedTo_4 : decode cX3_isLedTo 4 = .ok (.iload_n 1, 1) := by decide +kernel
theorem dX3_isLedTo_5 : decode cX3_isLedTo 5 = .ok (.iaload, 1) := by decide +kernel
theorem dX3_isLedTo_6 : decode cX3_isLedTo 6 = .ok (.ifCond .le 7, 3) := by decide +kernel
theorem dX3_isLedTo_9 : decode cX3_isLedTo 9 = .ok (.iconst 1, 1) := by decide +kernel
theorem dX3_isLedTo_10 : decode cX3_isLedTo 10 = .ok (.goto 4, 3) := by decide +kernel
theorem dX3_isLedTo_13 : decode cX3_isLedTo 13 = .ok (.iconst 0, 1) := by decide +kernel
theorem dX3_isLedTo_14 : decode cX3_isLedTo 14 = .ok (.ireturn, 1) := by decide +kernel
theorem dX3_append_0 : decode cX3_append 0 = .ok (.aload_n 0, 1) := by decide +kernel
theorem dX3_append_1 : decode cX3_append 1 = .ok (.getfield 22, 3) := by decide +kernel
theorem dX3_append_4 : decode cX3_append 4 = .ok (.bipush 40, 2) := by decide +kernel
theorem dX3_append_6 : decode cX3_append 6 = .ok (.if_icmp .ge 18, 3) := by decide +kernel
theorem dX3_append_9 : decode cX3_append 9 = .ok (.iload_n 1, 1) := by decide +kernel
theorem dX3_append_10 : decode cX3_append 10 = .ok (.invokestatic 35, 3) := by decide +kernel
theorem dX3_append_13 : decode cX3_append 13 = .ok (.ifCond .eq 11, 3) := by decide +kernel
theorem dX3_append_16 : decode cX3_append 16 = .ok (.iload_n 1, 1) := by decide +kernel
theorem dX3_append_17 : decode cX3_append 17 = .ok (.iload_n 2, 1) := by decide +kernel
theorem dX3_append_18 : decode cX3_append 18 = .ok (.invokestatic 41, 3) := by decide +kernel
theorem dX3_append_21 : decode cX3_append 21 = .ok (.ifCond .ne 5, 3) := by decide +kernel
theorem dX3_append_24 : decode cX3_append 24 = .ok (.iconst 0, 1) := by decide +kernel
theorem dX3_append_25 : decode cX3_append 25 = .ok (.ireturn, 1) := by decide +kernel
theorem dX3_append_26 : decode cX3_append 26 = .ok (.aload_n 0, 1) := by decide +kernel
theorem dX3_append_27 : decode cX3_append 27 = .ok (.getfield 9, 3) := by decide +kernel
theorem dX3_append_30 : decode cX3_append 30 = .ok (.aload_n 0, 1) := by decide +kernel
theorem dX3_append_31 : decode cX3_append 31 = .ok (.getfield 22, 3) := by decide +kernel
theorem dX3_append_34 : decode cX3_append 34 = .ok (.iload_n 1, 1) := by decide +kernel
theorem dX3_append_35 : decode cX3_append 35 = .ok (.iastore, 1) := by decide +kernel
theorem dX3_append_36 : decode cX3_append 36 = .ok (.aload_n 0, 1) := by decide +kernel
theorem dX3_append_37 : decode cX3_append 37 = .ok (.getfield 13, 3) := by decide +kernel
theorem dX3_append_40 : decode cX3_append 40 = .ok (.aload_n 0, 1) := by decide +kernel
theorem dX3_append_41 : decode cX3_append 41 = .ok (.getfield 22, 3) := by decide +kernel
theorem dX3_append_44 : decode cX3_append 44 = .ok (.iload_n 2, 1) := by decide +kernel
theorem dX3_append_45 : decode cX3_append 45 = .ok (.iastore, 1) := by decide +kernel
theorem dX3_append_46 : decode cX3_append 46 = .ok (.aload_n 0, 1) := by decide +kernel
theorem dX3_append_47 : decode cX3_append 47 = .ok (.dup, 1) := by decide +kernel
theorem dX3_append_48 : decode cX3_append 48 = .ok (.getfield 22, 3) := by decide +kernel
theorem dX3_append_51 : decode cX3_append 51 = .ok (.iconst 1, 1) := by decide +kernel
theorem dX3_append_52 : decode cX3_append 52 = .ok (.iadd, 1) := by decide +kernel
theorem dX3_append_53 : decode cX3_append 53 = .ok (.putfield 22, 3) := by decide +kernel
theorem dX3_append_56 : decode cX3_append 56 = .ok (.iload_n 1, 1) := by decide +kernel
theorem dX3_append_57 : decode cX3_append 57 = .ok (.invokestatic 45, 3) := by decide +kernel
theorem dX3_append_60 : decode cX3_append 60 = .ok (.ifCond .eq 13, 3) := by decide +kernel
theorem dX3_append_63 : decode cX3_append 63 = .ok (.aload_n 0, 1) := by decide +kernel
theorem dX3_append_64 : decode cX3_append 64 = .ok (.getfield 19, 3) := by decide +kernel
theorem dX3_append_67 : decode cX3_append 67 = .ok (.iload_n 2, 1) := by decide +kernel
theorem dX3_append_68 : decode cX3_append 68 = .ok (.dup2, 1) := by decide +kernel
theorem dX3_append_69 : decode cX3_append 69 = .ok (.iaload, 1) := by decide +kernel
theorem dX3_append_70 : decode cX3_append 70 = .ok (.iconst 1, 1) := by decide +kernel
theorem dX3_append_71 : decode cX3_append 71 = .ok (.iadd, 1) := by decide +kernel
theorem dX3_append_72 : decode cX3_append 72 = .ok (.iastore, 1) := by decide +kernel
theorem dX3_append_73 : decode cX3_append 73 = .ok (.iconst 1, 1) := by decide +kernel
theorem dX3_append_74 : decode cX3_append 74 = .ok (.ireturn, 1) := by decide +kernel
theorem dX3_replace_0 : decode cX3_replace 0 = .ok (.aload_n 0, 1) := by decide +kernel
theorem dX3_replace_1 : decode cX3_replace 1 = .ok (.getfield 9, 3) := by decide +kernel
theorem dX3_replace_4 : decode cX3_replace 4 = .ok (.iload_n 1, 1) := by decide +kernel
theorem dX3_replace_5 : decode cX3_replace 5 = .ok (.iaload, 1) := by decide +kernel
theorem dX3_replace_6 : decode cX3_replace 6 = .ok (.istore_n 3, 1) := by decide +kernel
theorem dX3_replace_7 : decode cX3_replace 7 = .ok (.iload_n 3, 1) := by decide +kernel
theorem dX3_replace_8 : decode cX3_replace 8 = .ok (.invokestatic 48, 3) := by decide +kernel
theorem dX3_replace_11 : decode cX3_replace 11 = .ok (.ifCond .eq 11, 3) := by decide +kernel
theorem dX3_replace_14 : decode cX3_replace 14 = .ok (.iload_n 3, 1) := by decide +kernel
theorem dX3_replace_15 : decode cX3_replace 15 = .ok (.iload_n 2, 1) := by decide +kernel
theorem dX3_replace_16 : decode cX3_replace 16 = .ok (.invokestatic 41, 3) := by decide +kernel
theorem dX3_replace_19 : decode cX3_replace 19 = .ok (.ifCond .ne 5, 3) := by decide +kernel
theorem dX3_replace_22 : decode cX3_replace 22 = .ok (.iconst 0, 1) := by decide +kernel
theorem dX3_replace_23 : decode cX3_replace 23 = .ok (.ireturn, 1) := by decide +kernel
theorem dX3_replace_24 : decode cX3_replace 24 = .ok (.iload_n 3, 1) := by decide +kernel
theorem dX3_replace_25 : decode cX3_replace 25 = .ok (.invokestatic 45, 3) := by decide +kernel
theorem dX3_replace_28 : decode cX3_replace 28 = .ok (.ifCond .eq 28, 3) := by decide +kernel
theorem dX3_replace_31 : decode cX3_replace 31 = .ok (.aload_n 0, 1) := by decide +kernel
theorem dX3_replace_32 : decode cX3_replace 32 = .ok (.getfield 19, 3) := by decide +kernel
theorem dX3_replace_35 : decode cX3_replace 35 = .ok (.aload_n 0, 1) := by decide +kernel
theorem dX3_replace_36 : decode cX3_replace 36 = .ok (.getfield 13, 3) := by decide +kernel
theorem dX3_replace_39 : decode cX3_replace 39 = .ok (.iload_n 1, 1) := by decide +kernel
theorem dX3_replace_40 : decode cX3_replace 40 = .ok (.iaload, 1) := by decide +kernel
theorem dX3_replace_41 : decode cX3_replace 41 = .ok (.dup2, 1) := by decide +kernel
theorem dX3_replace_42 : decode cX3_replace 42 = .ok (.iaload, 1) := by decide +kernel
theorem dX3_replace_43 : decode cX3_replace 43 = .ok (.iconst 1, 1) := by decide +kernel
theorem dX3_replace_44 : decode cX3_replace 44 = .ok (.isub, 1) := by decide +kernel
theorem dX3_replace_45 : decode cX3_replace 45 = .ok (.iastore, 1) := by decide +kernel
theorem dX3_replace_46 : decode cX3_replace 46 = .ok (.aload_n 0, 1) := by decide +kernel
theorem dX3_replace_47 : decode cX3_replace 47 = .ok (.getfield 19, 3) := by decide +kernel
theorem dX3_replace_50 : decode cX3_replace 50 = .ok (.iload_n 2, 1) := by decide +kernel
theorem dX3_replace_51 : decode cX3_replace 51 = .ok (.dup2, 1) := by decide +kernel
theorem dX3_replace_52 : decode cX3_replace 52 = .ok (.iaload, 1) := by decide +kernel
theorem dX3_replace_53 : decode cX3_replace 53 = .ok (.iconst 1, 1) := by decide +kernel
theorem dX3_replace_54 : decode cX3_replace 54 = .ok (.iadd, 1) := by decide +kernel
theorem dX3_replace_55 : decode cX3_replace 55 = .ok (.iastore, 1) := by decide +kernel
theorem dX3_replace_56 : decode cX3_replace 56 = .ok (.aload_n 0, 1) := by decide +kernel
theorem dX3_replace_57 : decode cX3_replace 57 = .ok (.getfield 13, 3) := by decide +kernel
theorem dX3_replace_60 : decode cX3_replace 60 = .ok (.iload_n 1, 1) := by decide +kernel
theorem dX3_replace_61 : decode cX3_replace 61 = .ok (.iload_n 2, 1) := by decide +kernel
theorem dX3_replace_62 : decode cX3_replace 62 = .ok (.iastore, 1) := by decide +kernel
theorem dX3_replace_63 : decode cX3_replace 63 = .ok (.iconst 1, 1) := by decide +kernel
theorem dX3_replace_64 : decode cX3_replace 64 = .ok (.ireturn, 1) := by decide +kernel
theorem dX3_reach_0 : decode cX3_reach 0 = .ok (.iconst 1, 1) := by decide +kernel
theorem dX3_reach_1 : decode cX3_reach 1 = .ok (.istore_n 2, 1) := by decide +kernel
theorem dX3_reach_2 : decode cX3_reach 2 = .ok (.iload_n 2, 1) := by decide +kernel
theorem dX3_reach_3 : decode cX3_reach 3 = .ok (.iconst 4, 1) := by decide +kernel
theorem dX3_reach_4 : decode cX3_reach 4 = .ok (.if_icmp .ge 45, 3) := by decide +kernel
theorem dX3_reach_7 : decode cX3_reach 7 = .ok (.iload_n 1, 1) := by decide +kernel
theorem dX3_reach_8 : decode cX3_reach 8 = .ok (.iload_n 2, 1) := by decide +kernel
theorem dX3_reach_9 : decode cX3_reach 9 = .ok (.iadd, 1) := by decide +kernel
theorem dX3_reach_10 : decode cX3_reach 10 = .ok (.aload_n 0, 1) := by decide +kernel
theorem dX3_reach_11 : decode cX3_reach 11 = .ok (.getfield 22, 3) := by decide +kernel
theorem dX3_reach_14 : decode cX3_reach 14 = .ok (.if_icmp .ge 35, 3) := by decide +kernel
theorem dX3_reach_17 : decode cX3_reach 17 = .ok (.aload_n 0, 1) := by decide +kernel
theorem dX3_reach_18 : decode cX3_reach 18 = .ok (.iload_n 1, 1) := by decide +kernel
theorem dX3_reach_19 : decode cX3_reach 19 = .ok (.iload_n 2, 1) := by decide +kernel
theorem dX3_reach_20 : decode cX3_reach 20 = .ok (.iadd, 1) := by decide +kernel
theorem dX3_reach_21 : decode cX3_reach 21 = .ok (.invokevirtual 53, 3) := by decide +kernel
theorem dX3_reach_24 : decode cX3_reach 24 = .ok (.ifCond .ne 25, 3) := by decide +kernel
theorem dX3_reach_27 : decode cX3_reach 27 = .ok (.aload_n 0, 1) := by decide +kernel
theorem dX3_reach_28 : decode cX3_reach 28 = .ok (.getfield 9, 3) := by decide +kernel
theorem dX3_reach_31 : decode cX3_reach 31 = .ok (.iload_n 1, 1) := by decide +kernel
theorem dX3_reach_32 : decode cX3_reach 32 = .ok (.iload_n 2, 1) := by decide +kernel
theorem dX3_reach_33 : decode cX3_reach 33 = .ok (.iadd, 1) := by decide +kernel
theorem dX3_reach_34 : decode cX3_reach 34 = .ok (.iconst 1, 1) := by decide +kernel
theorem dX3_reach_35 : decode cX3_reach 35 = .ok (.isub, 1) := by decide +kernel
theorem dX3_reach_36 : decode cX3_reach 36 = .ok (.iaload, 1) := by decide +kernel
theorem dX3_reach_37 : decode cX3_reach 37 = .ok (.invokestatic 56, 3) := by decide +kernel
theorem dX3_reach_40 : decode cX3_reach 40 = .ok (.ifCond .ne 9, 3) := by decide +kernel
theorem dX3_reach_43 : decode cX3_reach 43 = .ok (.iinc 2 1, 3) := by decide +kernel
theorem dX3_reach_46 : decode cX3_reach 46 = .ok (.goto (-44), 3) := by decide +kernel
theorem dX3_reach_49 : decode cX3_reach 49 = .ok (.iload_n 2, 1) := by decide +kernel
theorem dX3_reach_50 : decode cX3_reach 50 = .ok (.ireturn, 1) := by decide +kernel
theorem dX3_weight_0 : decode cX3_weight 0 = .ok (.iload_n 2, 1) := by decide +kernel
theorem dX3_weight_1 : decode cX3_weight 1 = .ok (.ifCond .eq 12, 3) := by decide +kernel
theorem dX3_weight_4 : decode cX3_weight 4 = .ok (.aload_n 0, 1) := by decide +kernel
theorem dX3_weight_5 : decode cX3_weight 5 = .ok (.getfield 16, 3) := by decide +kernel
theorem dX3_weight_8 : decode cX3_weight 8 = .ok (.iload_n 1, 1) := by decide +kernel
theorem dX3_weight_9 : decode cX3_weight 9 = .ok (.iaload, 1) := by decide +kernel
theorem dX3_weight_10 : decode cX3_weight 10 = .ok (.goto 4, 3) := by decide +kernel
theorem dX3_weight_13 : decode cX3_weight 13 = .ok (.iconst 1, 1) := by decide +kernel
theorem dX3_weight_14 : decode cX3_weight 14 = .ok (.ireturn, 1) := by decide +kernel
theorem dX3_copyFrom_0 : decode cX3_copyFrom 0 = .ok (.aload_n 0, 1) := by decide +kernel
theorem dX3_copyFrom_1 : decode cX3_copyFrom 1 = .ok (.aload_n 1, 1) := by decide +kernel
theorem dX3_copyFrom_2 : decode cX3_copyFrom 2 = .ok (.getfield 22, 3) := by decide +kernel
theorem dX3_copyFrom_5 : decode cX3_copyFrom 5 = .ok (.putfield 22, 3) := by decide +kernel
theorem dX3_copyFrom_8 : decode cX3_copyFrom 8 = .ok (.aload_n 1, 1) := by decide +kernel
theorem dX3_copyFrom_9 : decode cX3_copyFrom 9 = .ok (.getfield 9, 3) := by decide +kernel
theorem dX3_copyFrom_12 : decode cX3_copyFrom 12 = .ok (.iconst 0, 1) := by decide +kernel
theorem dX3_copyFrom_13 : decode cX3_copyFrom 13 = .ok (.aload_n 0, 1) := by decide +kernel
theorem dX3_copyFrom_14 : decode cX3_copyFrom 14 = .ok (.getfield 9, 3) := by decide +kernel
theorem dX3_copyFrom_17 : decode cX3_copyFrom 17 = .ok (.iconst 0, 1) := by decide +kernel
theorem dX3_copyFrom_18 : decode cX3_copyFrom 18 = .ok (.bipush 40, 2) := by decide +kernel
theorem dX3_copyFrom_20 : decode cX3_copyFrom 20 = .ok (.invokestatic 59, 3) := by decide +kernel
theorem dX3_copyFrom_23 : decode cX3_copyFrom 23 = .ok (.aload_n 1, 1) := by decide +kernel
theorem dX3_copyFrom_24 : decode cX3_copyFrom 24 = .ok (.getfield 13, 3) := by decide +kernel
theorem dX3_copyFrom_27 : decode cX3_copyFrom 27 = .ok (.iconst 0, 1) := by decide +kernel
theorem dX3_copyFrom_28 : decode cX3_copyFrom 28 = .ok (.aload_n 0, 1) := by decide +kernel
theorem dX3_copyFrom_29 : decode cX3_copyFrom 29 = .ok (.getfield 13, 3) := by decide +kernel
theorem dX3_copyFrom_32 : decode cX3_copyFrom 32 = .ok (.iconst 0, 1) := by decide +kernel
theorem dX3_copyFrom_33 : decode cX3_copyFrom 33 = .ok (.bipush 40, 2) := by decide +kernel
theorem dX3_copyFrom_35 : decode cX3_copyFrom 35 = .ok (.invokestatic 59, 3) := by decide +kernel
theorem dX3_copyFrom_38 : decode cX3_copyFrom 38 = .ok (.aload_n 1, 1) := by decide +kernel
theorem dX3_copyFrom_39 : decode cX3_copyFrom 39 = .ok (.getfield 16, 3) := by decide +kernel
theorem dX3_copyFrom_42 : decode cX3_copyFrom 42 = .ok (.iconst 0, 1) := by decide +kernel
theorem dX3_copyFrom_43 : decode cX3_copyFrom 43 = .ok (.aload_n 0, 1) := by decide +kernel
theorem dX3_copyFrom_44 : decode cX3_copyFrom 44 = .ok (.getfield 16, 3) := by decide +kernel
theorem dX3_copyFrom_47 : decode cX3_copyFrom 47 = .ok (.iconst 0, 1) := by decide +kernel
theorem dX3_copyFrom_48 : decode cX3_copyFrom 48 = .ok (.bipush 40, 2) := by decide +kernel
theorem dX3_copyFrom_50 : decode cX3_copyFrom 50 = .ok (.invokestatic 59, 3) := by decide +kernel
theorem dX3_copyFrom_53 : decode cX3_copyFrom 53 = .ok (.aload_n 1, 1) := by decide +kernel
theorem dX3_copyFrom_54 : decode cX3_copyFrom 54 = .ok (.getfield 19, 3) := by decide +kernel
theorem dX3_copyFrom_57 : decode cX3_copyFrom 57 = .ok (.iconst 0, 1) := by decide +kernel
theorem dX3_copyFrom_58 : decode cX3_copyFrom 58 = .ok (.aload_n 0, 1) := by decide +kernel
theorem dX3_copyFrom_59 : decode cX3_copyFrom 59 = .ok (.getfield 19, 3) := by decide +kernel
theorem dX3_copyFrom_62 : decode cX3_copyFrom 62 = .ok (.iconst 0, 1) := by decide +kernel
theorem dX3_copyFrom_63 : decode cX3_copyFrom 63 = .ok (.bipush 40, 2) := by decide +kernel
theorem dX3_copyFrom_65 : decode cX3_copyFrom 65 = .ok (.invokestatic 59, 3) := by decide +kernel
theorem dX3_copyFrom_68 : decode cX3_copyFrom 68 = .ok (.return_, 1) := by decide +kernel
theorem dX4_of_0 : decode cX4_of 0 = .ok (.iload_n 0, 1) := by decide +kernel
theorem dX4_of_1 : decode cX4_of 1 = .ok (.iconst 2, 1) := by decide +kernel
theorem dX4_of_2 : decode cX4_of 2 = .ok (.if_icmp .lt 8, 3) := by decide +kernel
theorem dX4_of_5 : decode cX4_of 5 = .ok (.iload_n 0, 1) := by decide +kernel
theorem dX4_of_6 : decode cX4_of 6 = .ok (.iconst 4, 1) := by decide +kernel
theorem dX4_of_7 : decode cX4_of 7 = .ok (.if_icmp .le 5, 3) := by decide +kernel
theorem dX4_of_10 : decode cX4_of 10 = .ok (.iconst 0, 1) := by decide +kernel
theorem dX4_of_11 : decode cX4_of 11 = .ok (.ireturn, 1) := by decide +kernel
theorem dX4_of_12 : decode cX4_of 12 = .ok (.iconst 0, 1) := by decide +kernel
theorem dX4_of_13 : decode cX4_of 13 = .ok (.istore 5, 2) := by decide +kernel
theorem dX4_of_15 : decode cX4_of 15 = .ok (.iconst 0, 1) := by decide +kernel
theorem dX4_of_16 : decode cX4_of 16 = .ok (.istore 6, 2) := by decide +kernel
theorem dX4_of_18 : decode cX4_of 18 = .ok (.iload 6, 2) := by decide +kernel
theorem dX4_of_20 : decode cX4_of 20 = .ok (.iload_n 0, 1) := by decide +kernel
theorem dX4_of_21 : decode cX4_of 21 = .ok (.if_icmp .ge 79, 3) := by decide +kernel
theorem dX4_of_24 : decode cX4_of 24 = .ok (.iload 6, 2) := by decide +kernel
theorem dX4_of_26 : decode cX4_of 26 = .ok (.ifCond .ne 7, 3) := by decide +kernel
theorem dX4_of_29 : decode cX4_of 29 = .ok (.iload_n 1, 1) := by decide +kernel
theorem dX4_of_30 : decode cX4_of 30 = .ok (.goto 25, 3) := by decide +kernel
theorem dX4_of_33 : decode cX4_of 33 = .ok (.iload 6, 2) := by decide +kernel
theorem dX4_of_35 : decode cX4_of 35 = .ok (.iconst 1, 1) := by decide +kernel
theorem dX4_of_36 : decode cX4_of 36 = .ok (.if_icmp .ne 7, 3) := by decide +kernel
theorem dX4_of_39 : decode cX4_of 39 = .ok (.iload_n 2, 1) := by decide +kernel
theorem dX4_of_40 : decode cX4_of 40 = .ok (.goto 15, 3) := by decide +kernel
theorem dX4_of_43 : decode cX4_of 43 = .ok (.iload 6, 2) := by decide +kernel
theorem dX4_of_45 : decode cX4_of 45 = .ok (.iconst 2, 1) := by decide +kernel
theorem dX4_of_46 : decode cX4_of 46 = .ok (.if_icmp .ne 7, 3) := by decide +kernel
theorem dX4_of_49 : decode cX4_of 49 = .ok (.iload_n 3, 1) := by decide +kernel
theorem dX4_of_50 : decode cX4_of 50 = .ok (.goto 5, 3) := by decide +kernel
theorem dX4_of_53 : decode cX4_of 53 = .ok (.iload 4, 2) := by decide +kernel
theorem dX4_of_55 : decode cX4_of 55 = .ok (.istore 7, 2) := by decide +kernel
theorem dX4_of_57 : decode cX4_of 57 = .ok (.iload 7, 2) := by decide +kernel
theorem dX4_of_59 : decode cX4_of 59 = .ok (.invokestatic 9, 3) := by decide +kernel
theorem dX4_of_62 : decode cX4_of 62 = .ok (.ifCond .eq 19, 3) := by decide +kernel
theorem dX4_of_65 : decode cX4_of 65 = .ok (.iload 6, 2) := by decide +kernel
theorem dX4_of_67 : decode cX4_of 67 = .ok (.iload_n 0, 1) := by decide +kernel
theorem dX4_of_68 : decode cX4_of 68 = .ok (.iconst 1, 1) := by decide +kernel
theorem dX4_of_69 : decode cX4_of 69 = .ok (.isub, 1) := by decide +kernel
theorem dX4_of_70 : decode cX4_of 70 = .ok (.if_icmp .ge 13, 3) := by decide +kernel
theorem dX4_of_73 : decode cX4_of 73 = .ok (.iload 7, 2) := by decide +kernel
theorem dX4_of_75 : decode cX4_of 75 = .ok (.invokestatic 15, 3) := by decide +kernel
theorem dX4_of_78 : decode cX4_of 78 = .ok (.ifCond .eq 5, 3) := by decide +kernel
theorem dX4_of_81 : decode cX4_of 81 = .ok (.iconst 0, 1) := by decide +kernel
theorem dX4_of_82 : decode cX4_of 82 = .ok (.ireturn, 1) := by decide +kernel
theorem dX4_of_83 : decode cX4_of 83 = .ok (.iload 5, 2) := by decide +kernel
theorem dX4_of_85 : decode cX4_of 85 = .ok (.iload 6, 2) := by decide +kernel
theorem dX4_of_87 : decode cX4_of 87 = .ok (.iload 7, 2) := by decide +kernel
theorem dX4_of_89 : decode cX4_of 89 = .ok (.invokestatic 18, 3) := by decide +kernel
theorem dX4_of_92 : decode cX4_of 92 = .ok (.istore 5, 2) := by decide +kernel
theorem dX4_of_94 : decode cX4_of 94 = .ok (.iinc 6 1, 3) := by decide +kernel
theorem dX4_of_97 : decode cX4_of 97 = .ok (.goto (-79), 3) := by decide +kernel
theorem dX4_of_100 : decode cX4_of 100 = .ok (.iload 5, 2) := by decide +kernel
theorem dX4_of_102 : decode cX4_of 102 = .ok (.ireturn, 1) := by decide +kernel
theorem dX4_with_0 : decode cX4_with 0 = .ok (.iload_n 0, 1) := by decide +kernel
theorem dX4_with_1 : decode cX4_with 1 = .ok (.iload_n 2, 1) := by decide +kernel
theorem dX4_with_2 : decode cX4_with 2 = .ok (.iconst 1, 1) := by decide +kernel
theorem dX4_with_3 : decode cX4_with 3 = .ok (.iadd, 1) := by decide +kernel
theorem dX4_with_4 : decode cX4_with 4 = .ok (.iconst 5, 1) := by decide +kernel
theorem dX4_with_5 : decode cX4_with 5 = .ok (.iconst 3, 1) := by decide +kernel
theorem dX4_with_6 : decode cX4_with 6 = .ok (.iload_n 1, 1) := by decide +kernel
theorem dX4_with_7 : decode cX4_with 7 = .ok (.isub, 1) := by decide +kernel
theorem dX4_with_8 : decode cX4_with 8 = .ok (.imul, 1) := by decide +kernel
theorem dX4_with_9 : decode cX4_with 9 = .ok (.ishl, 1) := by decide +kernel
theorem dX4_with_10 : decode cX4_with 10 = .ok (.ior, 1) := by decide +kernel
theorem dX4_with_11 : decode cX4_with 11 = .ok (.ireturn, 1) := by decide +kernel
theorem dX4_kind_0 : decode cX4_kind 0 = .ok (.iload_n 0, 1) := by decide +kernel
theorem dX4_kind_1 : decode cX4_kind 1 = .ok (.iconst 5, 1) := by decide +kernel
theorem dX4_kind_2 : decode cX4_kind 2 = .ok (.iconst 3, 1) := by decide +kernel
theorem dX4_kind_3 : decode cX4_kind 3 = .ok (.iload_n 1, 1) := by decide +kernel
theorem dX4_kind_4 : decode cX4_kind 4 = .ok (.isub, 1) := by decide +kernel
theorem dX4_kind_5 : decode cX4_kind 5 = .ok (.imul, 1) := by decide +kernel
theorem dX4_kind_6 : decode cX4_kind 6 = .ok (.iushr, 1) := by decide +kernel
theorem dX4_kind_7 : decode cX4_kind 7 = .ok (.bipush 31, 2) := by decide +kernel
theorem dX4_kind_9 : decode cX4_kind 9 = .ok (.iand, 1) := by decide +kernel
theorem dX4_kind_10 : decode cX4_kind 10 = .ok (.iconst 1, 1) := by decide +kernel
theorem dX4_kind_11 : decode cX4_kind 11 = .ok (.isub, 1) := by decide +kernel
theorem dX4_kind_12 : decode cX4_kind 12 = .ok (.ireturn, 1) := by decide +kernel
theorem dX5_init_0 : decode cX5_init 0 = .ok (.aload_n 0, 1) := by decide +kernel
theorem dX5_init_1 : decode cX5_init 1 = .ok (.invokespecial 3, 3) := by decide +kernel
theorem dX5_init_4 : decode cX5_init 4 = .ok (.aload_n 0, 1) := by decide +kernel
theorem dX5_init_5 : decode cX5_init 5 = .ok (.bipush 6, 2) := by decide +kernel
theorem dX5_init_7 : decode cX5_init 7 = .ok (.newarray .int, 2) := by decide +kernel
theorem dX5_init_9 : decode cX5_init 9 = .ok (.putfield 11, 3) := by decide +kernel
theorem dX5_init_12 : decode cX5_init 12 = .ok (.return_, 1) := by decide +kernel
theorem dX5_append_0 : decode cX5_append 0 = .ok (.aload_n 0, 1) := by decide +kernel
theorem dX5_append_1 : decode cX5_append 1 = .ok (.getfield 15, 3) := by decide +kernel
theorem dX5_append_4 : decode cX5_append 4 = .ok (.bipush 6, 2) := by decide +kernel
theorem dX5_append_6 : decode cX5_append 6 = .ok (.if_icmp .lt 5, 3) := by decide +kernel
theorem dX5_append_9 : decode cX5_append 9 = .ok (.iconst 0, 1) := by decide +kernel
theorem dX5_append_10 : decode cX5_append 10 = .ok (.ireturn, 1) := by decide +kernel
theorem dX5_append_11 : decode cX5_append 11 = .ok (.aload_n 0, 1) := by decide +kernel
theorem dX5_append_12 : decode cX5_append 12 = .ok (.getfield 11, 3) := by decide +kernel
theorem dX5_append_15 : decode cX5_append 15 = .ok (.aload_n 0, 1) := by decide +kernel
theorem dX5_append_16 : decode cX5_append 16 = .ok (.getfield 15, 3) := by decide +kernel
theorem dX5_append_19 : decode cX5_append 19 = .ok (.iload_n 1, 1) := by decide +kernel
theorem dX5_append_20 : decode cX5_append 20 = .ok (.iastore, 1) := by decide +kernel
theorem dX5_append_21 : decode cX5_append 21 = .ok (.aload_n 0, 1) := by decide +kernel
theorem dX5_append_22 : decode cX5_append 22 = .ok (.dup, 1) := by decide +kernel
theorem dX5_append_23 : decode cX5_append 23 = .ok (.getfield 15, 3) := by decide +kernel
theorem dX5_append_26 : decode cX5_append 26 = .ok (.iconst 1, 1) := by decide +kernel
theorem dX5_append_27 : decode cX5_append 27 = .ok (.iadd, 1) := by decide +kernel
theorem dX5_append_28 : decode cX5_append 28 = .ok (.putfield 15, 3) := by decide +kernel
theorem dX5_append_31 : decode cX5_append 31 = .ok (.iconst 1, 1) := by decide +kernel
theorem dX5_append_32 : decode cX5_append 32 = .ok (.ireturn, 1) := by decide +kernel
theorem dX5_indexOf_0 : decode cX5_indexOf 0 = .ok (.iconst 0, 1) := by decide +kernel
theorem dX5_indexOf_1 : decode cX5_indexOf 1 = .ok (.istore_n 2, 1) := by decide +kernel
theorem dX5_indexOf_2 : decode cX5_indexOf 2 = .ok (.iload_n 2, 1) := by decide +kernel
theorem dX5_indexOf_3 : decode cX5_indexOf 3 = .ok (.aload_n 0, 1) := by decide +kernel
theorem dX5_indexOf_4 : decode cX5_indexOf 4 = .ok (.getfield 15, 3) := by decide +kernel
theorem dX5_indexOf_7 : decode cX5_indexOf 7 = .ok (.if_icmp .ge 21, 3) := by decide +kernel
theorem dX5_indexOf_10 : decode cX5_indexOf 10 = .ok (.aload_n 0, 1) := by decide +kernel
theorem dX5_indexOf_11 : decode cX5_indexOf 11 = .ok (.getfield 11, 3) := by decide +kernel
theorem dX5_indexOf_14 : decode cX5_indexOf 14 = .ok (.iload_n 2, 1) := by decide +kernel
theorem dX5_indexOf_15 : decode cX5_indexOf 15 = .ok (.iaload, 1) := by decide +kernel
theorem dX5_indexOf_16 : decode cX5_indexOf 16 = .ok (.iload_n 1, 1) := by decide +kernel
theorem dX5_indexOf_17 : decode cX5_indexOf 17 = .ok (.if_icmp .ne 5, 3) := by decide +kernel
theorem dX5_indexOf_20 : decode cX5_indexOf 20 = .ok (.iload_n 2, 1) := by decide +kernel
theorem dX5_indexOf_21 : decode cX5_indexOf 21 = .ok (.ireturn, 1) := by decide +kernel
theorem dX5_indexOf_22 : decode cX5_indexOf 22 = .ok (.iinc 2 1, 3) := by decide +kernel
theorem dX5_indexOf_25 : decode cX5_indexOf 25 = .ok (.goto (-23), 3) := by decide +kernel
theorem dX5_indexOf_28 : decode cX5_indexOf 28 = .ok (.iconst (-1), 1) := by decide +kernel
theorem dX5_indexOf_29 : decode cX5_indexOf 29 = .ok (.ireturn, 1) := by decide +kernel
theorem dX5_kind_0 : decode cX5_kind 0 = .ok (.iload_n 1, 1) := by decide +kernel
theorem dX5_kind_1 : decode cX5_kind 1 = .ok (.ifCond .lt 20, 3) := by decide +kernel
theorem dX5_kind_4 : decode cX5_kind 4 = .ok (.iload_n 1, 1) := by decide +kernel
theorem dX5_kind_5 : decode cX5_kind 5 = .ok (.aload_n 0, 1) := by decide +kernel
theorem dX5_kind_6 : decode cX5_kind 6 = .ok (.getfield 15, 3) := by decide +kernel
theorem dX5_kind_9 : decode cX5_kind 9 = .ok (.if_icmp .ge 12, 3) := by decide +kernel
theorem dX5_kind_12 : decode cX5_kind 12 = .ok (.iload_n 2, 1) := by decide +kernel
theorem dX5_kind_13 : decode cX5_kind 13 = .ok (.ifCond .lt 8, 3) := by decide +kernel
theorem dX5_kind_16 : decode cX5_kind 16 = .ok (.iload_n 2, 1) := by decide +kernel
theorem dX5_kind_17 : decode cX5_kind 17 = .ok (.iconst 4, 1) := by decide +kernel
theorem dX5_kind_18 : decode cX5_kind 18 = .ok (.if_icmp .lt 5, 3) := by decide +kernel
theorem dX5_kind_21 : decode cX5_kind 21 = .ok (.iconst (-1), 1) := by decide +kernel
theorem dX5_kind_22 : decode cX5_kind 22 = .ok (.ireturn, 1) := by decide +kernel
theorem dX5_kind_23 : decode cX5_kind 23 = .ok (.aload_n 0, 1) := by decide +kernel
theorem dX5_kind_24 : decode cX5_kind 24 = .ok (.getfield 11, 3) := by decide +kernel
theorem dX5_kind_27 : decode cX5_kind 27 = .ok (.iload_n 1, 1) := by decide +kernel
theorem dX5_kind_28 : decode cX5_kind 28 = .ok (.iaload, 1) := by decide +kernel
theorem dX5_kind_29 : decode cX5_kind 29 = .ok (.iload_n 2, 1) := by decide +kernel
theorem dX5_kind_30 : decode cX5_kind 30 = .ok (.invokestatic 21, 3) := by decide +kernel
theorem dX5_kind_33 : decode cX5_kind 33 = .ok (.ireturn, 1) := by decide +kernel
theorem dX5_copyFrom_0 : decode cX5_copyFrom 0 = .ok (.aload_n 0, 1) := by decide +kernel
theorem dX5_copyFrom_1 : decode cX5_copyFrom 1 = .ok (.aload_n 1, 1) := by decide +kernel
theorem dX5_copyFrom_2 : decode cX5_copyFrom 2 = .ok (.getfield 15, 3) := by decide +kernel
theorem dX5_copyFrom_5 : decode cX5_copyFrom 5 = .ok (.putfield 15, 3) := by decide +kernel
theorem dX5_copyFrom_8 : decode cX5_copyFrom 8 = .ok (.aload_n 1, 1) := by decide +kernel
theorem dX5_copyFrom_9 : decode cX5_copyFrom 9 = .ok (.getfield 11, 3) := by decide +kernel
theorem dX5_copyFrom_12 : decode cX5_copyFrom 12 = .ok (.iconst 0, 1) := by decide +kernel
theorem dX5_copyFrom_13 : decode cX5_copyFrom 13 = .ok (.aload_n 0, 1) := by decide +kernel
theorem dX5_copyFrom_14 : decode cX5_copyFrom 14 = .ok (.getfield 11, 3) := by decide +kernel
theorem dX5_copyFrom_17 : decode cX5_copyFrom 17 = .ok (.iconst 0, 1) := by decide +kernel
theorem dX5_copyFrom_18 : decode cX5_copyFrom 18 = .ok (.bipush 6, 2) := by decide +kernel
theorem dX5_copyFrom_20 : decode cX5_copyFrom 20 = .ok (.invokestatic 25, 3) := by decide +kernel
theorem dX5_copyFrom_23 : decode cX5_copyFrom 23 = .ok (.return_, 1) := by decide +kernel
theorem dX6_init_0 : decode cX6_init 0 = .ok (.aload_n 0, 1) := by decide +kernel
theorem dX6_init_1 : decode cX6_init 1 = .ok (.invokespecial 1, 3) := by decide +kernel
theorem dX6_init_4 : decode cX6_init 4 = .ok (.aload_n 0, 1) := by decide +kernel
theorem dX6_init_5 : decode cX6_init 5 = .ok (.bipush 24, 2) := by decide +kernel
theorem dX6_init_7 : decode cX6_init 7 = .ok (.newarray .int, 2) := by decide +kernel
theorem dX6_init_9 : decode cX6_init 9 = .ok (.putfield 9, 3) := by decide +kernel
theorem dX6_init_12 : decode cX6_init 12 = .ok (.aload_n 0, 1) := by decide +kernel
theorem dX6_init_13 : decode cX6_init 13 = .ok (.bipush 40, 2) := by decide +kernel
theorem dX6_init_15 : decode cX6_init 15 = .ok (.newarray .int, 2) := by decide +kernel
theorem dX6_init_17 : decode cX6_init 17 = .ok (.putfield 13, 3) := by decide +kernel
theorem dX6_init_20 : decode cX6_init 20 = .ok (.aload_n 0, 1) := by decide +kernel
theorem dX6_init_21 : decode cX6_init 21 = .ok (.bipush 8, 2) := by decide +kernel
theorem dX6_init_23 : decode cX6_init 23 = .ok (.newarray .int, 2) := by decide +kernel
theorem dX6_init_25 : decode cX6_init 25 = .ok (.putfield 16, 3) := by decide +kernel
theorem dX6_init_28 : decode cX6_init 28 = .ok (.return_, 1) := by decide +kernel
theorem dX6_follow_0 : decode cX6_follow 0 = .ok (.aload_n 0, 1) := by decide +kernel
theorem dX6_follow_1 : decode cX6_follow 1 = .ok (.invokevirtual 19, 3) := by decide +kernel
theorem dX6_follow_4 : decode cX6_follow 4 = .ok (.aload_n 1, 1) := by decide +kernel
theorem dX6_follow_5 : decode cX6_follow 5 = .ok (.invokevirtual 22, 3) := by decide +kernel
theorem dX6_follow_8 : decode cX6_follow 8 = .ok (.iconst (-1), 1) := by decide +kernel
theorem dX6_follow_9 : decode cX6_follow 9 = .ok (.istore 4, 2) := by decide +kernel
theorem dX6_follow_11 : decode cX6_follow 11 = .ok (.iconst 0, 1) := by decide +kernel
theorem dX6_follow_12 : decode cX6_follow 12 = .ok (.istore 5, 2) := by decide +kernel
theorem dX6_follow_14 : decode cX6_follow 14 = .ok (.iload 5, 2) := by decide +kernel
theorem dX6_follow_16 : decode cX6_follow 16 = .ok (.iload_n 3, 1) := by decide +kernel
theorem dX6_follow_17 : decode cX6_follow 17 = .ok (.if_icmp .gt 61, 3) := by decide +kernel
theorem dX6_follow_20 : decode cX6_follow 20 = .ok (.iload 4, 2) := by decide +kernel
theorem dX6_follow_22 : decode cX6_follow 22 = .ok (.iconst (-1), 1) := by decide +kernel
theorem dX6_follow_23 : decode cX6_follow 23 = .ok (.if_icmp .ne 55, 3) := by decide +kernel
theorem dX6_follow_26 : decode cX6_follow 26 = .ok (.aload_n 0, 1) := by decide +kernel
theorem dX6_follow_27 : decode cX6_follow 27 = .ok (.aload_n 1, 1) := by decide +kernel
theorem dX6_follow_28 : decode cX6_follow 28 = .ok (.iload_n 3, 1) := by decide +kernel
theorem dX6_follow_29 : decode cX6_follow 29 = .ok (.invokevirtual 27, 3) := by decide +kernel
theorem dX6_follow_32 : decode cX6_follow 32 = .ok (.istore 4, 2) := by decide +kernel
theorem dX6_follow_34 : decode cX6_follow 34 = .ok (.iload 4, 2) := by decide +kernel
theorem dX6_follow_36 : decode cX6_follow 36 = .ok (.iconst (-1), 1) := by decide +kernel
theorem dX6_follow_37 : decode cX6_follow 37 = .ok (.if_icmp .ne 35, 3) := by decide +kernel
theorem dX6_follow_40 : decode cX6_follow 40 = .ok (.aload_n 2, 1) := by decide +kernel
theorem dX6_follow_41 : decode cX6_follow 41 = .ok (.ifnull 14, 3) := by decide +kernel
theorem dX6_follow_44 : decode cX6_follow 44 = .ok (.aload_n 2, 1) := by decide +kernel
theorem dX6_follow_45 : decode cX6_follow 45 = .ok (.aload_n 0, 1) := by decide +kernel
theorem dX6_follow_46 : decode cX6_follow 46 = .ok (.getfield 31, 3) := by decide +kernel
theorem dX6_follow_49 : decode cX6_follow 49 = .ok (.invokevirtual 35, 3) := by decide +kernel
theorem dX6_follow_52 : decode cX6_follow 52 = .ok (.ifCond .eq 13, 3) := by decide +kernel
theorem dX6_follow_55 : decode cX6_follow 55 = .ok (.aload_n 0, 1) := by decide +kernel
theorem dX6_follow_56 : decode cX6_follow 56 = .ok (.dup, 1) := by decide +kernel
theorem dX6_follow_57 : decode cX6_follow 57 = .ok (.getfield 41, 3) := by decide +kernel
theorem dX6_follow_60 : decode cX6_follow 60 = .ok (.iconst 1, 1) := by decide +kernel
theorem dX6_follow_61 : decode cX6_follow 61 = .ok (.iadd, 1) := by decide +kernel
theorem dX6_follow_62 : decode cX6_follow 62 = .ok (.putfield 41, 3) := by decide +kernel
theorem dX6_follow_65 : decode cX6_follow 65 = .ok (.aload_n 0, 1) := by decide +kernel
theorem dX6_follow_66 : decode cX6_follow 66 = .ok (.aload_n 1, 1) := by decide +kernel
theorem dX6_follow_67 : decode cX6_follow 67 = .ok (.invokevirtual 44, 3) := by decide +kernel
theorem dX6_follow_70 : decode cX6_follow 70 = .ok (.istore 4, 2) := by decide +kernel
theorem dX6_follow_72 : decode cX6_follow 72 = .ok (.iinc 5 1, 3) := by decide +kernel
theorem dX6_follow_75 : decode cX6_follow 75 = .ok (.goto (-61), 3) := by decide +kernel
theorem dX6_follow_78 : decode cX6_follow 78 = .ok (.iload 4, 2) := by decide +kernel
theorem dX6_follow_80 : decode cX6_follow 80 = .ok (.ireturn, 1) := by decide +kernel
theorem dX6_clear_0 : decode cX6_clear 0 = .ok (.aload_n 0, 1) := by decide +kernel
theorem dX6_clear_1 : decode cX6_clear 1 = .ok (.iconst 1, 1) := by decide +kernel
theorem dX6_clear_2 : decode cX6_clear 2 = .ok (.putfield 48, 3) := by decide +kernel
theorem dX6_clear_5 : decode cX6_clear 5 = .ok (.aload_n 0, 1) := by decide +kernel
theorem dX6_clear_6 : decode cX6_clear 6 = .ok (.iconst 0, 1) := by decide +kernel
theorem dX6_clear_7 : decode cX6_clear 7 = .ok (.putfield 52, 3) := by decide +kernel
theorem dX6_clear_10 : decode cX6_clear 10 = .ok (.aload_n 0, 1) := by decide +kernel
theorem dX6_clear_11 : decode cX6_clear 11 = .ok (.iconst 0, 1) := by decide +kernel
theorem dX6_clear_12 : decode cX6_clear 12 = .ok (.putfield 41, 3) := by decide +kernel
theorem dX6_clear_15 : decode cX6_clear 15 = .ok (.aload_n 0, 1) := by decide +kernel
theorem dX6_clear_16 : decode cX6_clear 16 = .ok (.iconst 0, 1) := by decide +kernel
theorem dX6_clear_17 : decode cX6_clear 17 = .ok (.putfield 31, 3) := by decide +kernel
theorem dX6_clear_20 : decode cX6_clear 20 = .ok (.aload_n 0, 1) := by decide +kernel
theorem dX6_clear_21 : decode cX6_clear 21 = .ok (.iconst 0, 1) := by decide +kernel
theorem dX6_clear_22 : decode cX6_clear 22 = .ok (.putfield 55, 3) := by decide +kernel
theorem dX6_clear_25 : decode cX6_clear 25 = .ok (.aload_n 0, 1) := by decide +kernel
theorem dX6_clear_26 : decode cX6_clear 26 = .ok (.iconst 0, 1) := by decide +kernel
theorem dX6_clear_27 : decode cX6_clear 27 = .ok (.putfield 58, 3) := by decide +kernel
theorem dX6_clear_30 : decode cX6_clear 30 = .ok (.aload_n 0, 1) := by decide +kernel
theorem dX6_clear_31 : decode cX6_clear 31 = .ok (.getfield 16, 3) := by decide +kernel
theorem dX6_clear_34 : decode cX6_clear 34 = .ok (.iconst 0, 1) := by decide +kernel
theorem dX6_clear_35 : decode cX6_clear 35 = .ok (.invokestatic 61, 3) := by decide +kernel
theorem dX6_clear_38 : decode cX6_clear 38 = .ok (.return_, 1) := by decide +kernel
theorem dX6_endAhead_0 : decode cX6_endAhead 0 = .ok (.aload_n 1, 1) := by decide +kernel
theorem dX6_endAhead_1 : decode cX6_endAhead 1 = .ok (.aload_n 0, 1) := by decide +kernel
theorem dX6_endAhead_2 : decode cX6_endAhead 2 = .ok (.getfield 31, 3) := by decide +kernel
theorem dX6_endAhead_5 : decode cX6_endAhead 5 = .ok (.invokevirtual 67, 3) := by decide +kernel
theorem dX6_endAhead_8 : decode cX6_endAhead 8 = .ok (.ifCond .ne 5, 3) := by decide +kernel
theorem dX6_endAhead_11 : decode cX6_endAhead 11 = .ok (.iconst 0, 1) := by decide +kernel
theorem dX6_endAhead_12 : decode cX6_endAhead 12 = .ok (.ireturn, 1) := by decide +kernel
theorem dX6_endAhead_13 : decode cX6_endAhead 13 = .ok (.aload_n 0, 1) := by decide +kernel
theorem dX6_endAhead_14 : decode cX6_endAhead 14 = .ok (.getfield 52, 3) := by decide +kernel
theorem dX6_endAhead_17 : decode cX6_endAhead 17 = .ok (.iload_n 2, 1) := by decide +kernel
theorem dX6_endAhead_18 : decode cX6_endAhead 18 = .ok (.if_icmp .lt 7, 3) := by decide +kernel
theorem dX6_endAhead_21 : decode cX6_endAhead 21 = .ok (.iconst 3, 1) := by decide +kernel
theorem dX6_endAhead_22 : decode cX6_endAhead 22 = .ok (.goto 4, 3) := by decide +kernel
theorem dX6_endAhead_25 : decode cX6_endAhead 25 = .ok (.iconst (-1), 1) := by decide +kernel
theorem dX6_endAhead_26 : decode cX6_endAhead 26 = .ok (.ireturn, 1) := by decide +kernel
theorem dX6_tryOrder_0 : decode cX6_tryOrder 0 = .ok (.aload_n 1, 1) := by decide +kernel
theorem dX6_tryOrder_1 : decode cX6_tryOrder 1 = .ok (.getfield 70, 3) := by decide +kernel
theorem dX6_tryOrder_4 : decode cX6_tryOrder 4 = .ok (.aload_n 0, 1) := by decide +kernel
theorem dX6_tryOrder_5 : decode cX6_tryOrder 5 = .ok (.getfield 31, 3) := by decide +kernel
theorem dX6_tryOrder_8 : decode cX6_tryOrder 8 = .ok (.iaload, 1) := by decide +kernel
theorem dX6_tryOrder_9 : decode cX6_tryOrder 9 = .ok (.istore_n 2, 1) := by decide +kernel
theorem dX6_tryOrder_10 : decode cX6_tryOrder 10 = .ok (.aload_n 0, 1) := by decide +kernel
theorem dX6_tryOrder_11 : decode cX6_tryOrder 11 = .ok (.getfield 55, 3) := by decide +kernel
theorem dX6_tryOrder_14 : decode cX6_tryOrder 14 = .ok (.getstatic 73, 3) := by decide +kernel
theorem dX6_tryOrder_17 : decode cX6_tryOrder 17 = .ok (.iload_n 2, 1) := by decide +kernel
theorem dX6_tryOrder_18 : decode cX6_tryOrder 18 = .ok (.iaload, 1) := by decide +kernel
theorem dX6_tryOrder_19 : decode cX6_tryOrder 19 = .ok (.if_icmp .ge 5, 3) := by decide +kernel
theorem dX6_tryOrder_22 : decode cX6_tryOrder 22 = .ok (.iconst 1, 1) := by decide +kernel
theorem dX6_tryOrder_23 : decode cX6_tryOrder 23 = .ok (.ireturn, 1) := by decide +kernel
theorem dX6_tryOrder_24 : decode cX6_tryOrder 24 = .ok (.aload_n 0, 1) := by decide +kernel
theorem dX6_tryOrder_25 : decode cX6_tryOrder 25 = .ok (.getfield 55, 3) := by decide +kernel
theorem dX6_tryOrder_28 : decode cX6_tryOrder 28 = .ok (.getstatic 73, 3) := by decide +kernel
theorem dX6_tryOrder_31 : decode cX6_tryOrder 31 = .ok (.iload_n 2, 1) := by decide +kernel
theorem dX6_tryOrder_32 : decode cX6_tryOrder 32 = .ok (.iaload, 1) := by decide +kernel
theorem dX6_tryOrder_33 : decode cX6_tryOrder 33 = .ok (.isub, 1) := by decide +kernel
theorem dX6_tryOrder_34 : decode cX6_tryOrder 34 = .ok (.getstatic 78, 3) := by decide +kernel
theorem dX6_tryOrder_37 : decode cX6_tryOrder 37 = .ok (.iload_n 2, 1) := by decide +kernel
theorem dX6_tryOrder_38 : decode cX6_tryOrder 38 = .ok (.iaload, 1) := by decide +kernel
theorem dX6_tryOrder_39 : decode cX6_tryOrder 39 = .ok (.iadd, 1) := by decide +kernel
theorem dX6_tryOrder_40 : decode cX6_tryOrder 40 = .ok (.bipush 24, 2) := by decide +kernel
theorem dX6_tryOrder_42 : decode cX6_tryOrder 42 = .ok (.if_icmp .gt 18, 3) := by decide +kernel
theorem dX6_tryOrder_45 : decode cX6_tryOrder 45 = .ok (.iload_n 2, 1) := by decide +kernel
theorem dX6_tryOrder_46 : decode cX6_tryOrder 46 = .ok (.bipush 12, 2) := by decide +kernel
theorem dX6_tryOrder_48 : decode cX6_tryOrder 48 = .ok (.if_icmp .ne 14, 3) := by decide +kernel
theorem dX6_tryOrder_51 : decode cX6_tryOrder 51 = .ok (.aload_n 0, 1) := by decide +kernel
theorem dX6_tryOrder_52 : decode cX6_tryOrder 52 = .ok (.getfield 58, 3) := by decide +kernel
theorem dX6_tryOrder_55 : decode cX6_tryOrder 55 = .ok (.bipush 40, 2) := by decide +kernel
theorem dX6_tryOrder_57 : decode cX6_tryOrder 57 = .ok (.if_icmp .lt 5, 3) := by decide +kernel
theorem dX6_tryOrder_60 : decode cX6_tryOrder 60 = .ok (.iconst 2, 1) := by decide +kernel
theorem dX6_tryOrder_61 : decode cX6_tryOrder 61 = .ok (.ireturn, 1) := by decide +kernel
theorem dX6_tryOrder_62 : decode cX6_tryOrder 62 = .ok (.aload_n 0, 1) := by decide +kernel
theorem dX6_tryOrder_63 : decode cX6_tryOrder 63 = .ok (.dup, 1) := by decide +kernel
theorem dX6_tryOrder_64 : decode cX6_tryOrder 64 = .ok (.getfield 52, 3) := by decide +kernel
theorem dX6_tryOrder_67 : decode cX6_tryOrder 67 = .ok (.iconst 1, 1) := by decide +kernel
theorem dX6_tryOrder_68 : decode cX6_tryOrder 68 = .ok (.iadd, 1) := by decide +kernel
theorem dX6_tryOrder_69 : decode cX6_tryOrder 69 = .ok (.putfield 52, 3) := by decide +kernel
theorem dX6_tryOrder_72 : decode cX6_tryOrder 72 = .ok (.aload_n 1, 1) := by decide +kernel
theorem dX6_tryOrder_73 : decode cX6_tryOrder 73 = .ok (.getfield 81, 3) := by decide +kernel
theorem dX6_tryOrder_76 : decode cX6_tryOrder 76 = .ok (.aload_n 0, 1) := by decide +kernel
theorem dX6_tryOrder_77 : decode cX6_tryOrder 77 = .ok (.getfield 31, 3) := by decide +kernel
theorem dX6_tryOrder_80 : decode cX6_tryOrder 80 = .ok (.dup2, 1) := by decide +kernel
theorem dX6_tryOrder_81 : decode cX6_tryOrder 81 = .ok (.iaload, 1) := by decide +kernel
theorem dX6_tryOrder_82 : decode cX6_tryOrder 82 = .ok (.iconst 1, 1) := by decide +kernel
theorem dX6_tryOrder_83 : decode cX6_tryOrder 83 = .ok (.iadd, 1) := by decide +kernel
theorem dX6_tryOrder_84 : decode cX6_tryOrder 84 = .ok (.iastore, 1) := by decide +kernel
theorem dX6_tryOrder_85 : decode cX6_tryOrder 85 = .ok (.iload_n 2, 1) := by decide +kernel
theorem dX6_tryOrder_86 : decode cX6_tryOrder 86 = .ok (.bipush 13, 2) := by decide +kernel
theorem dX6_tryOrder_88 : decode cX6_tryOrder 88 = .ok (.if_icmp .ne 5, 3) := by decide +kernel
theorem dX6_tryOrder_91 : decode cX6_tryOrder 91 = .ok (.iconst 0, 1) := by decide +kernel
theorem dX6_tryOrder_92 : decode cX6_tryOrder 92 = .ok (.ireturn, 1) := by decide +kernel
theorem dX6_tryOrder_93 : decode cX6_tryOrder 93 = .ok (.aload_n 0, 1) := by decide +kernel
theorem dX6_tryOrder_94 : decode cX6_tryOrder 94 = .ok (.iload_n 2, 1) := by decide +kernel
theorem dX6_tryOrder_95 : decode cX6_tryOrder 95 = .ok (.aload_n 1, 1) := by decide +kernel
theorem dX6_tryOrder_96 : decode cX6_tryOrder 96 = .ok (.getfield 84, 3) := by decide +kernel
theorem dX6_tryOrder_99 : decode cX6_tryOrder 99 = .ok (.aload_n 0, 1) := by decide +kernel
theorem dX6_tryOrder_100 : decode cX6_tryOrder 100 = .ok (.getfield 31, 3) := by decide +kernel
theorem dX6_tryOrder_103 : decode cX6_tryOrder 103 = .ok (.iaload, 1) := by decide +kernel
theorem dX6_tryOrder_104 : decode cX6_tryOrder 104 = .ok (.invokevirtual 87, 3) := by decide +kernel
theorem dX6_tryOrder_107 : decode cX6_tryOrder 107 = .ok (.iconst (-1), 1) := by decide +kernel
theorem dX6_tryOrder_108 : decode cX6_tryOrder 108 = .ok (.ireturn, 1) := by decide +kernel
theorem dX6_carryOut_0 : decode cX6_carryOut 0 = .ok (.aload_n 0, 1) := by decide +kernel
theorem dX6_carryOut_1 : decode cX6_carryOut 1 = .ok (.getfield 31, 3) := by decide +kernel
theorem dX6_carryOut_4 : decode cX6_carryOut 4 = .ok (.iconst 1, 1) := by decide +kernel
theorem dX6_carryOut_5 : decode cX6_carryOut 5 = .ok (.iadd, 1) := by decide +kernel
theorem dX6_carryOut_6 : decode cX6_carryOut 6 = .ok (.istore_n 3, 1) := by decide +kernel
theorem dX6_carryOut_7 : decode cX6_carryOut 7 = .ok (.iload_n 1, 1) := by decide +kernel
theorem dX6_carryOut_8 : decode cX6_carryOut 8 = .ok (.tableswitch 215 0 15 #[80, 88, 88, 88, 96, 114, 121, 129, 142, 155, 160, 88, 176, 215, 215, 202], 80) := by decide +kernel
theorem dX6_carryOut_88 : decode cX6_carryOut 88 = .ok (.aload_n 0, 1) := by decide +kernel
theorem dX6_carryOut_89 : decode cX6_carryOut 89 = .ok (.iload_n 2, 1) := by decide +kernel
theorem dX6_carryOut_90 : decode cX6_carryOut 90 = .ok (.invokevirtual 91, 3) := by decide +kernel
theorem dX6_carryOut_93 : decode cX6_carryOut 93 = .ok (.goto 130, 3) := by decide +kernel
theorem dX6_carryOut_96 : decode cX6_carryOut 96 = .ok (.aload_n 0, 1) := by decide +kernel
theorem dX6_carryOut_97 : decode cX6_carryOut 97 = .ok (.iload_n 1, 1) := by decide +kernel
theorem dX6_carryOut_98 : decode cX6_carryOut 98 = .ok (.invokevirtual 95, 3) := by decide +kernel
theorem dX6_carryOut_101 : decode cX6_carryOut 101 = .ok (.goto 122, 3) := by decide +kernel
theorem dX6_carryOut_104 : decode cX6_carryOut 104 = .ok (.aload_n 0, 1) := by decide +kernel
theorem dX6_carryOut_105 : decode cX6_carryOut 105 = .ok (.aload_n 0, 1) := by decide +kernel
theorem dX6_carryOut_106 : decode cX6_carryOut 106 = .ok (.getfield 9, 3) := by decide +kernel
theorem dX6_carryOut_109 : decode cX6_carryOut 109 = .ok (.aload_n 0, 1) := by decide +kernel
theorem dX6_carryOut_110 : decode cX6_carryOut 110 = .ok (.getfield 55, 3) := by decide +kernel
theorem dX6_carryOut_113 : decode cX6_carryOut 113 = .ok (.iconst 1, 1) := by decide +kernel
theorem dX6_carryOut_114 : decode cX6_carryOut 114 = .ok (.isub, 1) := by decide +kernel
theorem dX6_carryOut_115 : decode cX6_carryOut 115 = .ok (.iaload, 1) := by decide +kernel
theorem dX6_carryOut_116 : decode cX6_carryOut 116 = .ok (.invokevirtual 91, 3) := by decide +kernel
theorem dX6_carryOut_119 : decode cX6_carryOut 119 = .ok (.goto 104, 3) := by decide +kernel
theorem dX6_carryOut_122 : decode cX6_carryOut 122 = .ok (.aload_n 0, 1) := by decide +kernel
theorem dX6_carryOut_123 : decode cX6_carryOut 123 = .ok (.invokevirtual 98, 3) := by decide +kernel
theorem dX6_carryOut_126 : decode cX6_carryOut 126 = .ok (.goto 97, 3) := by decide +kernel
theorem dX6_carryOut_129 : decode cX6_carryOut 129 = .ok (.aload_n 0, 1) := by decide +kernel
theorem dX6_carryOut_130 : decode cX6_carryOut 130 = .ok (.invokevirtual 101, 3) := by decide +kernel
theorem dX6_carryOut_133 : decode cX6_carryOut 133 = .ok (.pop, 1) := by decide +kernel
theorem dX6_carryOut_134 : decode cX6_carryOut 134 = .ok (.goto 89, 3) := by decide +kernel
theorem dX6_carryOut_137 : decode cX6_carryOut 137 = .ok (.aload_n 0, 1) := by decide +kernel
theorem dX6_carryOut_138 : decode cX6_carryOut 138 = .ok (.aload_n 0, 1) := by decide +kernel
theorem dX6_carryOut_139 : decode cX6_carryOut 139 = .ok (.getfield 16, 3) := by decide +kernel
theorem dX6_carryOut_142 : decode cX6_carryOut 142 = .ok (.iload_n 2, 1) := by decide +kernel
theorem dX6_carryOut_143 : decode cX6_carryOut 143 = .ok (.iaload, 1) := by decide +kernel
theorem dX6_carryOut_144 : decode cX6_carryOut 144 = .ok (.invokevirtual 91, 3) := by decide +kernel
theorem dX6_carryOut_147 : decode cX6_carryOut 147 = .ok (.goto 76, 3) := by decide +kernel
theorem dX6_carryOut_150 : decode cX6_carryOut 150 = .ok (.aload_n 0, 1) := by decide +kernel
theorem dX6_carryOut_151 : decode cX6_carryOut 151 = .ok (.getfield 16, 3) := by decide +kernel
theorem dX6_carryOut_154 : decode cX6_carryOut 154 = .ok (.iload_n 2, 1) := by decide +kernel
theorem dX6_carryOut_155 : decode cX6_carryOut 155 = .ok (.aload_n 0, 1) := by decide +kernel
theorem dX6_carryOut_156 : decode cX6_carryOut 156 = .ok (.invokevirtual 101, 3) := by decide +kernel
theorem dX6_carryOut_159 : decode cX6_carryOut 159 = .ok (.iastore, 1) := by decide +kernel
theorem dX6_carryOut_160 : decode cX6_carryOut 160 = .ok (.goto 63, 3) := by decide +kernel
theorem dX6_carryOut_163 : decode cX6_carryOut 163 = .ok (.iload_n 2, 1) := by decide +kernel
theorem dX6_carryOut_164 : decode cX6_carryOut 164 = .ok (.istore_n 3, 1) := by decide +kernel
theorem dX6_carryOut_165 : decode cX6_carryOut 165 = .ok (.goto 58, 3) := by decide +kernel
theorem dX6_carryOut_168 : decode cX6_carryOut 168 = .ok (.aload_n 0, 1) := by decide +kernel
theorem dX6_carryOut_169 : decode cX6_carryOut 169 = .ok (.invokevirtual 101, 3) := by decide +kernel
theorem dX6_carryOut_172 : decode cX6_carryOut 172 = .ok (.ifCond .ne 7, 3) := by decide +kernel
theorem dX6_carryOut_175 : decode cX6_carryOut 175 = .ok (.iload_n 2, 1) := by decide +kernel
theorem dX6_carryOut_176 : decode cX6_carryOut 176 = .ok (.goto 4, 3) := by decide +kernel
theorem dX6_carryOut_179 : decode cX6_carryOut 179 = .ok (.iload_n 3, 1) := by decide +kernel
theorem dX6_carryOut_180 : decode cX6_carryOut 180 = .ok (.istore_n 3, 1) := by decide +kernel
theorem dX6_carryOut_181 : decode cX6_carryOut 181 = .ok (.goto 42, 3) := by decide +kernel
theorem dX6_carryOut_184 : decode cX6_carryOut 184 = .ok (.aload_n 0, 1) := by decide +kernel
theorem dX6_carryOut_185 : decode cX6_carryOut 185 = .ok (.getfield 13, 3) := by decide +kernel
theorem dX6_carryOut_188 : decode cX6_carryOut 188 = .ok (.aload_n 0, 1) := by decide +kernel
theorem dX6_carryOut_189 : decode cX6_carryOut 189 = .ok (.getfield 58, 3) := by decide +kernel
theorem dX6_carryOut_192 : decode cX6_carryOut 192 = .ok (.aload_n 0, 1) := by decide +kernel
theorem dX6_carryOut_193 : decode cX6_carryOut 193 = .ok (.invokevirtual 101, 3) := by decide +kernel
theorem dX6_carryOut_196 : decode cX6_carryOut 196 = .ok (.iastore, 1) := by decide +kernel
theorem dX6_carryOut_197 : decode cX6_carryOut 197 = .ok (.aload_n 0, 1) := by decide +kernel
theorem dX6_carryOut_198 : decode cX6_carryOut 198 = .ok (.dup, 1) := by decide +kernel
theorem dX6_carryOut_199 : decode cX6_carryOut 199 = .ok (.getfield 58, 3) := by decide +kernel
theorem dX6_carryOut_202 : decode cX6_carryOut 202 = .ok (.iconst 1, 1) := by decide +kernel
theorem dX6_carryOut_203 : decode cX6_carryOut 203 = .ok (.iadd, 1) := by decide +kernel
theorem dX6_carryOut_204 : decode cX6_carryOut 204 = .ok (.putfield 58, 3) := by decide +kernel
theorem dX6_carryOut_207 : decode cX6_carryOut 207 = .ok (.goto 16, 3) := by decide +kernel
theorem dX6_carryOut_210 : decode cX6_carryOut 210 = .ok (.aload_n 0, 1) := by decide +kernel
theorem dX6_carryOut_211 : decode cX6_carryOut 211 = .ok (.getfield 16, 3) := by decide +kernel
theorem dX6_carryOut_214 : decode cX6_carryOut 214 = .ok (.iload_n 2, 1) := by decide +kernel
theorem dX6_carryOut_215 : decode cX6_carryOut 215 = .ok (.dup2, 1) := by decide +kernel
theorem dX6_carryOut_216 : decode cX6_carryOut 216 = .ok (.iaload, 1) := by decide +kernel
theorem dX6_carryOut_217 : decode cX6_carryOut 217 = .ok (.iconst 1, 1) := by decide +kernel
theorem dX6_carryOut_218 : decode cX6_carryOut 218 = .ok (.iadd, 1) := by decide +kernel
theorem dX6_carryOut_219 : decode cX6_carryOut 219 = .ok (.iastore, 1) := by decide +kernel
theorem dX6_carryOut_220 : decode cX6_carryOut 220 = .ok (.goto 3, 3) := by decide +kernel
theorem dX6_carryOut_223 : decode cX6_carryOut 223 = .ok (.aload_n 0, 1) := by decide +kernel
theorem dX6_carryOut_224 : decode cX6_carryOut 224 = .ok (.iload_n 3, 1) := by decide +kernel
theorem dX6_carryOut_225 : decode cX6_carryOut 225 = .ok (.putfield 31, 3) := by decide +kernel
theorem dX6_carryOut_228 : decode cX6_carryOut 228 = .ok (.return_, 1) := by decide +kernel
theorem dX6_layOneForTwo_0 : decode cX6_layOneForTwo 0 = .ok (.aload_n 0, 1) := by decide +kernel
theorem dX6_layOneForTwo_1 : decode cX6_layOneForTwo 1 = .ok (.invokevirtual 101, 3) := by decide +kernel
theorem dX6_layOneForTwo_4 : decode cX6_layOneForTwo 4 = .ok (.istore_n 2, 1) := by decide +kernel
theorem dX6_layOneForTwo_5 : decode cX6_layOneForTwo 5 = .ok (.aload_n 0, 1) := by decide +kernel
theorem dX6_layOneForTwo_6 : decode cX6_layOneForTwo 6 = .ok (.invokevirtual 101, 3) := by decide +kernel
theorem dX6_layOneForTwo_9 : decode cX6_layOneForTwo 9 = .ok (.istore_n 3, 1) := by decide +kernel
theorem dX6_layOneForTwo_10 : decode cX6_layOneForTwo 10 = .ok (.iload_n 1, 1) := by decide +kernel
theorem dX6_layOneForTwo_11 : decode cX6_layOneForTwo 11 = .ok (.tableswitch 55 1 3 #[25, 35, 45], 25) := by decide +kernel
theorem dX6_layOneForTwo_36 : decode cX6_layOneForTwo 36 = .ok (.aload_n 0, 1) := by decide +kernel
theorem dX6_layOneForTwo_37 : decode cX6_layOneForTwo 37 = .ok (.iload_n 3, 1) := by decide +kernel
theorem dX6_layOneForTwo_38 : decode cX6_layOneForTwo 38 = .ok (.iload_n 2, 1) := by decide +kernel
theorem dX6_layOneForTwo_39 : decode cX6_layOneForTwo 39 = .ok (.iadd, 1) := by decide +kernel
theorem dX6_layOneForTwo_40 : decode cX6_layOneForTwo 40 = .ok (.invokevirtual 91, 3) := by decide +kernel
theorem dX6_layOneForTwo_43 : decode cX6_layOneForTwo 43 = .ok (.goto 37, 3) := by decide +kernel
theorem dX6_layOneForTwo_46 : decode cX6_layOneForTwo 46 = .ok (.aload_n 0, 1) := by decide +kernel
theorem dX6_layOneForTwo_47 : decode cX6_layOneForTwo 47 = .ok (.iload_n 3, 1) := by decide +kernel
theorem dX6_layOneForTwo_48 : decode cX6_layOneForTwo 48 = .ok (.iload_n 2, 1) := by decide +kernel
theorem dX6_layOneForTwo_49 : decode cX6_layOneForTwo 49 = .ok (.isub, 1) := by decide +kernel
theorem dX6_layOneForTwo_50 : decode cX6_layOneForTwo 50 = .ok (.invokevirtual 91, 3) := by decide +kernel
theorem dX6_layOneForTwo_53 : decode cX6_layOneForTwo 53 = .ok (.goto 27, 3) := by decide +kernel
theorem dX6_layOneForTwo_56 : decode cX6_layOneForTwo 56 = .ok (.aload_n 0, 1) := by decide +kernel
theorem dX6_layOneForTwo_57 : decode cX6_layOneForTwo 57 = .ok (.iload_n 3, 1) := by decide +kernel
theorem dX6_layOneForTwo_58 : decode cX6_layOneForTwo 58 = .ok (.iload_n 2, 1) := by decide +kernel
theorem dX6_layOneForTwo_59 : decode cX6_layOneForTwo 59 = .ok (.imul, 1) := by decide +kernel
theorem dX6_layOneForTwo_60 : decode cX6_layOneForTwo 60 = .ok (.invokevirtual 91, 3) := by decide +kernel
theorem dX6_layOneForTwo_63 : decode cX6_layOneForTwo 63 = .ok (.goto 17, 3) := by decide +kernel
theorem dX6_layOneForTwo_66 : decode cX6_layOneForTwo 66 = .ok (.aload_n 0, 1) := by decide +kernel
theorem dX6_layOneForTwo_67 : decode cX6_layOneForTwo 67 = .ok (.iload_n 3, 1) := by decide +kernel
theorem dX6_layOneForTwo_68 : decode cX6_layOneForTwo 68 = .ok (.iload_n 2, 1) := by decide +kernel
theorem dX6_layOneForTwo_69 : decode cX6_layOneForTwo 69 = .ok (.if_icmp .ge 7, 3) := by decide +kernel
theorem dX6_layOneForTwo_72 : decode cX6_layOneForTwo 72 = .ok (.iconst 1, 1) := by decide +kernel
theorem dX6_layOneForTwo_73 : decode cX6_layOneForTwo 73 = .ok (.goto 4, 3) := by decide +kernel
theorem dX6_layOneForTwo_76 : decode cX6_layOneForTwo 76 = .ok (.iconst 0, 1) := by decide +kernel
theorem dX6_layOneForTwo_77 : decode cX6_layOneForTwo 77 = .ok (.invokevirtual 91, 3) := by decide +kernel
theorem dX6_layOneForTwo_80 : decode cX6_layOneForTwo 80 = .ok (.return_, 1) := by decide +kernel
theorem dX6_turnUpperTwo_0 : decode cX6_turnUpperTwo 0 = .ok (.aload_n 0, 1) := by decide +kernel
theorem dX6_turnUpperTwo_1 : decode cX6_turnUpperTwo 1 = .ok (.invokevirtual 101, 3) := by decide +kernel
theorem dX6_turnUpperTwo_4 : decode cX6_turnUpperTwo 4 = .ok (.istore_n 1, 1) := by decide +kernel
theorem dX6_turnUpperTwo_5 : decode cX6_turnUpperTwo 5 = .ok (.aload_n 0, 1) := by decide +kernel
theorem dX6_turnUpperTwo_6 : decode cX6_turnUpperTwo 6 = .ok (.invokevirtual 101, 3) := by decide +kernel
theorem dX6_turnUpperTwo_9 : decode cX6_turnUpperTwo 9 = .ok (.istore_n 2, 1) := by decide +kernel
theorem dX6_turnUpperTwo_10 : decode cX6_turnUpperTwo 10 = .ok (.aload_n 0, 1) := by decide +kernel
theorem dX6_turnUpperTwo_11 : decode cX6_turnUpperTwo 11 = .ok (.iload_n 1, 1) := by decide +kernel
theorem dX6_turnUpperTwo_12 : decode cX6_turnUpperTwo 12 = .ok (.invokevirtual 91, 3) := by decide +kernel
theorem dX6_turnUpperTwo_15 : decode cX6_turnUpperTwo 15 = .ok (.aload_n 0, 1) := by decide +kernel
theorem dX6_turnUpperTwo_16 : decode cX6_turnUpperTwo 16 = .ok (.iload_n 2, 1) := by decide +kernel
theorem dX6_turnUpperTwo_17 : decode cX6_turnUpperTwo 17 = .ok (.invokevirtual 91, 3) := by decide +kernel
theorem dX6_turnUpperTwo_20 : decode cX6_turnUpperTwo 20 = .ok (.return_, 1) := by decide +kernel
theorem dX6_lay_0 : decode cX6_lay 0 = .ok (.aload_n 0, 1) := by decide +kernel
theorem dX6_lay_1 : decode cX6_lay 1 = .ok (.getfield 9, 3) := by decide +kernel
theorem dX6_lay_4 : decode cX6_lay 4 = .ok (.aload_n 0, 1) := by decide +kernel
theorem dX6_lay_5 : decode cX6_lay 5 = .ok (.getfield 55, 3) := by decide +kernel
theorem dX6_lay_8 : decode cX6_lay 8 = .ok (.iload_n 1, 1) := by decide +kernel
theorem dX6_lay_9 : decode cX6_lay 9 = .ok (.iastore, 1) := by decide +kernel
theorem dX6_lay_10 : decode cX6_lay 10 = .ok (.aload_n 0, 1) := by decide +kernel
theorem dX6_lay_11 : decode cX6_lay 11 = .ok (.dup, 1) := by decide +kernel
theorem dX6_lay_12 : decode cX6_lay 12 = .ok (.getfield 55, 3) := by decide +kernel
theorem dX6_lay_15 : decode cX6_lay 15 = .ok (.iconst 1, 1) := by decide +kernel
theorem dX6_lay_16 : decode cX6_lay 16 = .ok (.iadd, 1) := by decide +kernel
theorem dX6_lay_17 : decode cX6_lay 17 = .ok (.putfield 55, 3) := by decide +kernel
theorem dX6_lay_20 : decode cX6_lay 20 = .ok (.return_, 1) := by decide +kernel
theorem dX6_lift_0 : decode cX6_lift 0 = .ok (.aload_n 0, 1) := by decide +kernel
theorem dX6_lift_1 : decode cX6_lift 1 = .ok (.dup, 1) := by decide +kernel
theorem dX6_lift_2 : decode cX6_lift 2 = .ok (.getfield 55, 3) := by decide +kernel
theorem dX6_lift_5 : decode cX6_lift 5 = .ok (.iconst 1, 1) := by decide +kernel
theorem dX6_lift_6 : decode cX6_lift 6 = .ok (.isub, 1) := by decide +kernel
theorem dX6_lift_7 : decode cX6_lift 7 = .ok (.putfield 55, 3) := by decide +kernel
theorem dX6_lift_10 : decode cX6_lift 10 = .ok (.aload_n 0, 1) := by decide +kernel
theorem dX6_lift_11 : decode cX6_lift 11 = .ok (.getfield 9, 3) := by decide +kernel
theorem dX6_lift_14 : decode cX6_lift 14 = .ok (.aload_n 0, 1) := by decide +kernel
theorem dX6_lift_15 : decode cX6_lift 15 = .ok (.getfield 55, 3) := by decide +kernel
theorem dX6_lift_18 : decode cX6_lift 18 = .ok (.iaload, 1) := by decide +kernel
theorem dX6_lift_19 : decode cX6_lift 19 = .ok (.ireturn, 1) := by decide +kernel
theorem dX6_copyFrom_0 : decode cX6_copyFrom 0 = .ok (.aload_n 0, 1) := by decide +kernel
theorem dX6_copyFrom_1 : decode cX6_copyFrom 1 = .ok (.aload_n 1, 1) := by decide +kernel
theorem dX6_copyFrom_2 : decode cX6_copyFrom 2 = .ok (.getfield 48, 3) := by decide +kernel
theorem dX6_copyFrom_5 : decode cX6_copyFrom 5 = .ok (.putfield 48, 3) := by decide +kernel
theorem dX6_copyFrom_8 : decode cX6_copyFrom 8 = .ok (.aload_n 0, 1) := by decide +kernel
theorem dX6_copyFrom_9 : decode cX6_copyFrom 9 = .ok (.aload_n 1, 1) := by decide +kernel
theorem dX6_copyFrom_10 : decode cX6_copyFrom 10 = .ok (.getfield 52, 3) := by decide +kernel
theorem dX6_copyFrom_13 : decode cX6_copyFrom 13 = .ok (.putfield 52, 3) := by decide +kernel
theorem dX6_copyFrom_16 : decode cX6_copyFrom 16 = .ok (.aload_n 0, 1) := by decide +kernel
theorem dX6_copyFrom_17 : decode cX6_copyFrom 17 = .ok (.aload_n 1, 1) := by decide +kernel
theorem dX6_copyFrom_18 : decode cX6_copyFrom 18 = .ok (.getfield 41, 3) := by decide +kernel
theorem dX6_copyFrom_21 : decode cX6_copyFrom 21 = .ok (.putfield 41, 3) := by decide +kernel
theorem dX6_copyFrom_24 : decode cX6_copyFrom 24 = .ok (.aload_n 0, 1) := by decide +kernel
theorem dX6_copyFrom_25 : decode cX6_copyFrom 25 = .ok (.aload_n 1, 1) := by decide +kernel
theorem dX6_copyFrom_26 : decode cX6_copyFrom 26 = .ok (.getfield 31, 3) := by decide +kernel
theorem dX6_copyFrom_29 : decode cX6_copyFrom 29 = .ok (.putfield 31, 3) := by decide +kernel
theorem dX6_copyFrom_32 : decode cX6_copyFrom 32 = .ok (.aload_n 0, 1) := by decide +kernel
theorem dX6_copyFrom_33 : decode cX6_copyFrom 33 = .ok (.aload_n 1, 1) := by decide +kernel
theorem dX6_copyFrom_34 : decode cX6_copyFrom 34 = .ok (.getfield 55, 3) := by decide +kernel
theorem dX6_copyFrom_37 : decode cX6_copyFrom 37 = .ok (.putfield 55, 3) := by decide +kernel
theorem dX6_copyFrom_40 : decode cX6_copyFrom 40 = .ok (.aload_n 1, 1) := by decide +kernel
theorem dX6_copyFrom_41 : decode cX6_copyFrom 41 = .ok (.getfield 9, 3) := by decide +kernel
theorem dX6_copyFrom_44 : decode cX6_copyFrom 44 = .ok (.iconst 0, 1) := by decide +kernel
theorem dX6_copyFrom_45 : decode cX6_copyFrom 45 = .ok (.aload_n 0, 1) := by decide +kernel
theorem dX6_copyFrom_46 : decode cX6_copyFrom 46 = .ok (.getfield 9, 3) := by decide +kernel
theorem dX6_copyFrom_49 : decode cX6_copyFrom 49 = .ok (.iconst 0, 1) := by decide +kernel
theorem dX6_copyFrom_50 : decode cX6_copyFrom 50 = .ok (.bipush 24, 2) := by decide +kernel
theorem dX6_copyFrom_52 : decode cX6_copyFrom 52 = .ok (.invokestatic 105, 3) := by decide +kernel
theorem dX6_copyFrom_55 : decode cX6_copyFrom 55 = .ok (.aload_n 0, 1) := by decide +kernel
theorem dX6_copyFrom_56 : decode cX6_copyFrom 56 = .ok (.aload_n 1, 1) := by decide +kernel
theorem dX6_copyFrom_57 : decode cX6_copyFrom 57 = .ok (.getfield 58, 3) := by decide +kernel
theorem dX6_copyFrom_60 : decode cX6_copyFrom 60 = .ok (.putfield 58, 3) := by decide +kernel
theorem dX6_copyFrom_63 : decode cX6_copyFrom 63 = .ok (.aload_n 1, 1) := by decide +kernel
theorem dX6_copyFrom_64 : decode cX6_copyFrom 64 = .ok (.getfield 13, 3) := by decide +kernel
theorem dX6_copyFrom_67 : decode cX6_copyFrom 67 = .ok (.iconst 0, 1) := by decide +kernel
theorem dX6_copyFrom_68 : decode cX6_copyFrom 68 = .ok (.aload_n 0, 1) := by decide +kernel
theorem dX6_copyFrom_69 : decode cX6_copyFrom 69 = .ok (.getfield 13, 3) := by decide +kernel
theorem dX6_copyFrom_72 : decode cX6_copyFrom 72 = .ok (.iconst 0, 1) := by decide +kernel
theorem dX6_copyFrom_73 : decode cX6_copyFrom 73 = .ok (.bipush 40, 2) := by decide +kernel
theorem dX6_copyFrom_75 : decode cX6_copyFrom 75 = .ok (.invokestatic 105, 3) := by decide +kernel
theorem dX6_copyFrom_78 : decode cX6_copyFrom 78 = .ok (.aload_n 1, 1) := by decide +kernel
theorem dX6_copyFrom_79 : decode cX6_copyFrom 79 = .ok (.getfield 16, 3) := by decide +kernel
theorem dX6_copyFrom_82 : decode cX6_copyFrom 82 = .ok (.iconst 0, 1) := by decide +kernel
theorem dX6_copyFrom_83 : decode cX6_copyFrom 83 = .ok (.aload_n 0, 1) := by decide +kernel
theorem dX6_copyFrom_84 : decode cX6_copyFrom 84 = .ok (.getfield 16, 3) := by decide +kernel
theorem dX6_copyFrom_87 : decode cX6_copyFrom 87 = .ok (.iconst 0, 1) := by decide +kernel
theorem dX6_copyFrom_88 : decode cX6_copyFrom 88 = .ok (.bipush 8, 2) := by decide +kernel
theorem dX6_copyFrom_90 : decode cX6_copyFrom 90 = .ok (.invokestatic 105, 3) := by decide +kernel
theorem dX6_copyFrom_93 : decode cX6_copyFrom 93 = .ok (.return_, 1) := by decide +kernel
theorem dX7_init_0 : decode cX7_init 0 = .ok (.aload_n 0, 1) := by decide +kernel
theorem dX7_init_1 : decode cX7_init 1 = .ok (.invokespecial 1, 3) := by decide +kernel
theorem dX7_init_4 : decode cX7_init 4 = .ok (.aload_n 0, 1) := by decide +kernel
theorem dX7_init_5 : decode cX7_init 5 = .ok (.iconst 3, 1) := by decide +kernel
theorem dX7_init_6 : decode cX7_init 6 = .ok (.anewarray 9, 3) := by decide +kernel
theorem dX7_init_9 : decode cX7_init 9 = .ok (.putfield 11, 3) := by decide +kernel
theorem dX7_init_12 : decode cX7_init 12 = .ok (.aload_n 0, 1) := by decide +kernel
theorem dX7_init_13 : decode cX7_init 13 = .ok (.new 15, 3) := by decide +kernel
theorem dX7_init_16 : decode cX7_init 16 = .ok (.dup, 1) := by decide +kernel
theorem dX7_init_17 : decode cX7_init 17 = .ok (.invokespecial 17, 3) := by decide +kernel
theorem dX7_init_20 : decode cX7_init 20 = .ok (.putfield 18, 3) := by decide +kernel
theorem dX7_init_23 : decode cX7_init 23 = .ok (.aload_n 0, 1) := by decide +kernel
theorem dX7_init_24 : decode cX7_init 24 = .ok (.new 22, 3) := by decide +kernel
theorem dX7_init_27 : decode cX7_init 27 = .ok (.dup, 1) := by decide +kernel
theorem dX7_init_28 : decode cX7_init 28 = .ok (.invokespecial 24, 3) := by decide +kernel
theorem dX7_init_31 : decode cX7_init 31 = .ok (.putfield 25, 3) := by decide +kernel
theorem dX7_init_34 : decode cX7_init 34 = .ok (.aload_n 0, 1) := by decide +kernel
theorem dX7_init_35 : decode cX7_init 35 = .ok (.new 29, 3) := by decide +kernel
theorem dX7_init_38 : decode cX7_init 38 = .ok (.dup, 1) := by decide +kernel
theorem dX7_init_39 : decode cX7_init 39 = .ok (.invokespecial 31, 3) := by decide +kernel
theorem dX7_init_42 : decode cX7_init 42 = .ok (.putfield 32, 3) := by decide +kernel
theorem dX7_init_45 : decode cX7_init 45 = .ok (.aload_n 0, 1) := by decide +kernel
theorem dX7_init_46 : decode cX7_init 46 = .ok (.new 15, 3) := by decide +kernel
theorem dX7_init_49 : decode cX7_init 49 = .ok (.dup, 1) := by decide +kernel
theorem dX7_init_50 : decode cX7_init 50 = .ok (.invokespecial 17, 3) := by decide +kernel
theorem dX7_init_53 : decode cX7_init 53 = .ok (.putfield 36, 3) := by decide +kernel
theorem dX7_init_56 : decode cX7_init 56 = .ok (.aload_n 0, 1) := by decide +kernel
theorem dX7_init_57 : decode cX7_init 57 = .ok (.new 39, 3) := by decide +kernel
theorem dX7_init_60 : decode cX7_init 60 = .ok (.dup, 1) := by decide +kernel
theorem dX7_init_61 : decode cX7_init 61 = .ok (.invokespecial 41, 3) := by decide +kernel
theorem dX7_init_64 : decode cX7_init 64 = .ok (.putfield 42, 3) := by decide +kernel
theorem dX7_init_67 : decode cX7_init 67 = .ok (.iconst 0, 1) := by decide +kernel
theorem dX7_init_68 : decode cX7_init 68 = .ok (.istore_n 1, 1) := by decide +kernel
theorem dX7_init_69 : decode cX7_init 69 = .ok (.iload_n 1, 1) := by decide +kernel
theorem dX7_init_70 : decode cX7_init 70 = .ok (.iconst 3, 1) := by decide +kernel
theorem dX7_init_71 : decode cX7_init 71 = .ok (.if_icmp .ge 22, 3) := by decide +kernel
theorem dX7_init_74 : decode cX7_init 74 = .ok (.aload_n 0, 1) := by decide +kernel
theorem dX7_init_75 : decode cX7_init 75 = .ok (.getfield 11, 3) := by decide +kernel
theorem dX7_init_78 : decode cX7_init 78 = .ok (.iload_n 1, 1) := by decide +kernel
theorem dX7_init_79 : decode cX7_init 79 = .ok (.new 9, 3) := by decide +kernel
theorem dX7_init_82 : decode cX7_init 82 = .ok (.dup, 1) := by decide +kernel
theorem dX7_init_83 : decode cX7_init 83 = .ok (.invokespecial 46, 3) := by decide +kernel
theorem dX7_init_86 : decode cX7_init 86 = .ok (.aastore, 1) := by decide +kernel
theorem dX7_init_87 : decode cX7_init 87 = .ok (.iinc 1 1, 3) := by decide +kernel
theorem dX7_init_90 : decode cX7_init 90 = .ok (.goto (-21), 3) := by decide +kernel
theorem dX7_init_93 : decode cX7_init 93 = .ok (.return_, 1) := by decide +kernel
theorem dX7_hasProgram_0 : decode cX7_hasProgram 0 = .ok (.iload_n 1, 1) := by decide +kernel
theorem dX7_hasProgram_1 : decode cX7_hasProgram 1 = .ok (.ifCond .lt 15, 3) := by decide +kernel
theorem dX7_hasProgram_4 : decode cX7_hasProgram 4 = .ok (.iload_n 1, 1) := by decide +kernel
theorem dX7_hasProgram_5 : decode cX7_hasProgram 5 = .ok (.aload_n 0, 1) := by decide +kernel
theorem dX7_hasProgram_6 : decode cX7_hasProgram 6 = .ok (.getfield 47, 3) := by decide +kernel
theorem dX7_hasProgram_9 : decode cX7_hasProgram 9 = .ok (.if_icmp .ge 7, 3) := by decide +kernel
theorem dX7_hasProgram_12 : decode cX7_hasProgram 12 = .ok (.iconst 1, 1) := by decide +kernel
theorem dX7_hasProgram_13 : decode cX7_hasProgram 13 = .ok (.goto 4, 3) := by decide +kernel
theorem dX7_hasProgram_16 : decode cX7_hasProgram 16 = .ok (.iconst 0, 1) := by decide +kernel
theorem dX7_hasProgram_17 : decode cX7_hasProgram 17 = .ok (.ireturn, 1) := by decide +kernel
theorem dX7_hasOrder_0 : decode cX7_hasOrder 0 = .ok (.aload_n 0, 1) := by decide +kernel
theorem dX7_hasOrder_1 : decode cX7_hasOrder 1 = .ok (.iload_n 1, 1) := by decide +kernel
theorem dX7_hasOrder_2 : decode cX7_hasOrder 2 = .ok (.invokevirtual 51, 3) := by decide +kernel
theorem dX7_hasOrder_5 : decode cX7_hasOrder 5 = .ok (.ifCond .eq 20, 3) := by decide +kernel
theorem dX7_hasOrder_8 : decode cX7_hasOrder 8 = .ok (.aload_n 0, 1) := by decide +kernel
theorem dX7_hasOrder_9 : decode cX7_hasOrder 9 = .ok (.getfield 11, 3) := by decide +kernel
theorem dX7_hasOrder_12 : decode cX7_hasOrder 12 = .ok (.iload_n 1, 1) := by decide +kernel
theorem dX7_hasOrder_13 : decode cX7_hasOrder 13 = .ok (.aaload, 1) := by decide +kernel
theorem dX7_hasOrder_14 : decode cX7_hasOrder 14 = .ok (.iload_n 2, 1) := by decide +kernel
theorem dX7_hasOrder_15 : decode cX7_hasOrder 15 = .ok (.invokevirtual 55, 3) := by decide +kernel
theorem dX7_hasOrder_18 : decode cX7_hasOrder 18 = .ok (.ifCond .eq 7, 3) := by decide +kernel
theorem dX7_hasOrder_21 : decode cX7_hasOrder 21 = .ok (.iconst 1, 1) := by decide +kernel
theorem dX7_hasOrder_22 : decode cX7_hasOrder 22 = .ok (.goto 4, 3) := by decide +kernel
theorem dX7_hasOrder_25 : decode cX7_hasOrder 25 = .ok (.iconst 0, 1) := by decide +kernel
theorem dX7_hasOrder_26 : decode cX7_hasOrder 26 = .ok (.ireturn, 1) := by decide +kernel
theorem dX7_copyFrom_0 : decode cX7_copyFrom 0 = .ok (.aload_n 0, 1) := by decide +kernel
theorem dX7_copyFrom_1 : decode cX7_copyFrom 1 = .ok (.aload_n 1, 1) := by decide +kernel
theorem dX7_copyFrom_2 : decode cX7_copyFrom 2 = .ok (.getfield 47, 3) := by decide +kernel
theorem dX7_copyFrom_5 : decode cX7_copyFrom 5 = .ok (.putfield 47, 3) := by decide +kernel
theorem dX7_copyFrom_8 : decode cX7_copyFrom 8 = .ok (.iconst 0, 1) := by decide +kernel
theorem dX7_copyFrom_9 : decode cX7_copyFrom 9 = .ok (.istore_n 2, 1) := by decide +kernel
theorem dX7_copyFrom_10 : decode cX7_copyFrom 10 = .ok (.iload_n 2, 1) := by decide +kernel
theorem dX7_copyFrom_11 : decode cX7_copyFrom 11 = .ok (.aload_n 0, 1) := by decide +kernel
theorem dX7_copyFrom_12 : decode cX7_copyFrom 12 = .ok (.getfield 47, 3) := by decide +kernel
theorem dX7_copyFrom_15 : decode cX7_copyFrom 15 = .ok (.if_icmp .ge 24, 3) := by decide +kernel
theorem dX7_copyFrom_18 : decode cX7_copyFrom 18 = .ok (.aload_n 0, 1) := by decide +kernel
theorem dX7_copyFrom_19 : decode cX7_copyFrom 19 = .ok (.getfield 11, 3) := by decide +kernel
theorem dX7_copyFrom_22 : decode cX7_copyFrom 22 = .ok (.iload_n 2, 1) := by decide +kernel
theorem dX7_copyFrom_23 : decode cX7_copyFrom 23 = .ok (.aaload, 1) := by decide +kernel
theorem dX7_copyFrom_24 : decode cX7_copyFrom 24 = .ok (.aload_n 1, 1) := by decide +kernel
theorem dX7_copyFrom_25 : decode cX7_copyFrom 25 = .ok (.getfield 11, 3) := by decide +kernel
theorem dX7_copyFrom_28 : decode cX7_copyFrom 28 = .ok (.iload_n 2, 1) := by decide +kernel
theorem dX7_copyFrom_29 : decode cX7_copyFrom 29 = .ok (.aaload, 1) := by decide +kernel
theorem dX7_copyFrom_30 : decode cX7_copyFrom 30 = .ok (.invokevirtual 58, 3) := by decide +kernel
theorem dX7_copyFrom_33 : decode cX7_copyFrom 33 = .ok (.iinc 2 1, 3) := by decide +kernel
theorem dX7_copyFrom_36 : decode cX7_copyFrom 36 = .ok (.goto (-26), 3) := by decide +kernel
theorem dX7_copyFrom_39 : decode cX7_copyFrom 39 = .ok (.aload_n 0, 1) := by decide +kernel
theorem dX7_copyFrom_40 : decode cX7_copyFrom 40 = .ok (.getfield 18, 3) := by decide +kernel
theorem dX7_copyFrom_43 : decode cX7_copyFrom 43 = .ok (.aload_n 1, 1) := by decide +kernel
theorem dX7_copyFrom_44 : decode cX7_copyFrom 44 = .ok (.getfield 18, 3) := by decide +kernel
theorem dX7_copyFrom_47 : decode cX7_copyFrom 47 = .ok (.invokevirtual 62, 3) := by decide +kernel
theorem dX7_copyFrom_50 : decode cX7_copyFrom 50 = .ok (.aload_n 0, 1) := by decide +kernel
theorem dX7_copyFrom_51 : decode cX7_copyFrom 51 = .ok (.getfield 25, 3) := by decide +kernel
theorem dX7_copyFrom_54 : decode cX7_copyFrom 54 = .ok (.aload_n 1, 1) := by decide +kernel
theorem dX7_copyFrom_55 : decode cX7_copyFrom 55 = .ok (.getfield 25, 3) := by decide +kernel
theorem dX7_copyFrom_58 : decode cX7_copyFrom 58 = .ok (.invokevirtual 65, 3) := by decide +kernel
theorem dX7_copyFrom_61 : decode cX7_copyFrom 61 = .ok (.aload_n 0, 1) := by decide +kernel
theorem dX7_copyFrom_62 : decode cX7_copyFrom 62 = .ok (.getfield 32, 3) := by decide +kernel
theorem dX7_copyFrom_65 : decode cX7_copyFrom 65 = .ok (.aload_n 1, 1) := by decide +kernel
theorem dX7_copyFrom_66 : decode cX7_copyFrom 66 = .ok (.getfield 32, 3) := by decide +kernel
theorem dX7_copyFrom_69 : decode cX7_copyFrom 69 = .ok (.invokevirtual 68, 3) := by decide +kernel
theorem dX7_copyFrom_72 : decode cX7_copyFrom 72 = .ok (.aload_n 0, 1) := by decide +kernel
theorem dX7_copyFrom_73 : decode cX7_copyFrom 73 = .ok (.aload_n 1, 1) := by decide +kernel
theorem dX7_copyFrom_74 : decode cX7_copyFrom 74 = .ok (.getfield 71, 3) := by decide +kernel
theorem dX7_copyFrom_77 : decode cX7_copyFrom 77 = .ok (.putfield 71, 3) := by decide +kernel
theorem dX7_copyFrom_80 : decode cX7_copyFrom 80 = .ok (.aload_n 0, 1) := by decide +kernel
theorem dX7_copyFrom_81 : decode cX7_copyFrom 81 = .ok (.getfield 36, 3) := by decide +kernel
theorem dX7_copyFrom_84 : decode cX7_copyFrom 84 = .ok (.aload_n 1, 1) := by decide +kernel
theorem dX7_copyFrom_85 : decode cX7_copyFrom 85 = .ok (.getfield 36, 3) := by decide +kernel
theorem dX7_copyFrom_88 : decode cX7_copyFrom 88 = .ok (.invokevirtual 62, 3) := by decide +kernel
theorem dX7_copyFrom_91 : decode cX7_copyFrom 91 = .ok (.aload_n 0, 1) := by decide +kernel
theorem dX7_copyFrom_92 : decode cX7_copyFrom 92 = .ok (.getfield 42, 3) := by decide +kernel
theorem dX7_copyFrom_95 : decode cX7_copyFrom 95 = .ok (.aload_n 1, 1) := by decide +kernel
theorem dX7_copyFrom_96 : decode cX7_copyFrom 96 = .ok (.getfield 42, 3) := by decide +kernel
theorem dX7_copyFrom_99 : decode cX7_copyFrom 99 = .ok (.invokevirtual 75, 3) := by decide +kernel
theorem dX7_copyFrom_102 : decode cX7_copyFrom 102 = .ok (.return_, 1) := by decide +kernel
theorem dX8_init_0 : decode cX8_init 0 = .ok (.aload_n 0, 1) := by decide +kernel
theorem dX8_init_1 : decode cX8_init 1 = .ok (.invokespecial 3, 3) := by decide +kernel
theorem dX8_init_4 : decode cX8_init 4 = .ok (.aload_n 0, 1) := by decide +kernel
theorem dX8_init_5 : decode cX8_init 5 = .ok (.sipush 160, 3) := by decide +kernel
theorem dX8_init_8 : decode cX8_init 8 = .ok (.newarray .int, 2) := by decide +kernel
theorem dX8_init_10 : decode cX8_init 10 = .ok (.putfield 11, 3) := by decide +kernel
theorem dX8_init_13 : decode cX8_init 13 = .ok (.return_, 1) := by decide +kernel
theorem dX8_append_0 : decode cX8_append 0 = .ok (.iload_n 2, 1) := by decide +kernel
theorem dX8_append_1 : decode cX8_append 1 = .ok (.iconst 1, 1) := by decide +kernel
theorem dX8_append_2 : decode cX8_append 2 = .ok (.if_icmp .lt 20, 3) := by decide +kernel
theorem dX8_append_5 : decode cX8_append 5 = .ok (.iload_n 2, 1) := by decide +kernel
theorem dX8_append_6 : decode cX8_append 6 = .ok (.iconst 4, 1) := by decide +kernel
theorem dX8_append_7 : decode cX8_append 7 = .ok (.if_icmp .gt 15, 3) := by decide +kernel
theorem dX8_append_10 : decode cX8_append 10 = .ok (.aload_n 0, 1) := by decide +kernel
theorem dX8_append_11 : decode cX8_append 11 = .ok (.getfield 15, 3) := by decide +kernel
theorem dX8_append_14 : decode cX8_append 14 = .ok (.iload_n 2, 1) := by decide +kernel
theorem dX8_append_15 : decode cX8_append 15 = .ok (.iadd, 1) := by decide +kernel
theorem dX8_append_16 : decode cX8_append 16 = .ok (.sipush 160, 3) := by decide +kernel
theorem dX8_append_19 : decode cX8_append 19 = .ok (.if_icmp .le 5, 3) := by decide +kernel
theorem dX8_append_22 : decode cX8_append 22 = .ok (.iconst 0, 1) := by decide +kernel
theorem dX8_append_23 : decode cX8_append 23 = .ok (.ireturn, 1) := by decide +kernel
theorem dX8_append_24 : decode cX8_append 24 = .ok (.iconst 0, 1) := by decide +kernel
theorem dX8_append_25 : decode cX8_append 25 = .ok (.istore_n 3, 1) := by decide +kernel
theorem dX8_append_26 : decode cX8_append 26 = .ok (.iload_n 3, 1) := by decide +kernel
theorem dX8_append_27 : decode cX8_append 27 = .ok (.iload_n 2, 1) := by decide +kernel
theorem dX8_append_28 : decode cX8_append 28 = .ok (.if_icmp .ge 41, 3) := by decide +kernel
theorem dX8_append_31 : decode cX8_append 31 = .ok (.aload_n 0, 1) := by decide +kernel
theorem dX8_append_32 : decode cX8_append 32 = .ok (.getfield 11, 3) := by decide +kernel
theorem dX8_append_35 : decode cX8_append 35 = .ok (.aload_n 0, 1) := by decide +kernel
theorem dX8_append_36 : decode cX8_append 36 = .ok (.getfield 15, 3) := by decide +kernel
theorem dX8_append_39 : decode cX8_append 39 = .ok (.iload_n 1, 1) := by decide +kernel
theorem dX8_append_40 : decode cX8_append 40 = .ok (.bipush 24, 2) := by decide +kernel
theorem dX8_append_42 : decode cX8_append 42 = .ok (.bipush 8, 2) := by decide +kernel
theorem dX8_append_44 : decode cX8_append 44 = .ok (.iload_n 3, 1) := by decide +kernel
theorem dX8_append_45 : decode cX8_append 45 = .ok (.imul, 1) := by decide +kernel
theorem dX8_append_46 : decode cX8_append 46 = .ok (.isub, 1) := by decide +kernel
theorem dX8_append_47 : decode cX8_append 47 = .ok (.iushr, 1) := by decide +kernel
theorem dX8_append_48 : decode cX8_append 48 = .ok (.sipush 255, 3) := by decide +kernel
theorem dX8_append_51 : decode cX8_append 51 = .ok (.iand, 1) := by decide +kernel
theorem dX8_append_52 : decode cX8_append 52 = .ok (.iastore, 1) := by decide +kernel
theorem dX8_append_53 : decode cX8_append 53 = .ok (.aload_n 0, 1) := by decide +kernel
theorem dX8_append_54 : decode cX8_append 54 = .ok (.dup, 1) := by decide +kernel
theorem dX8_append_55 : decode cX8_append 55 = .ok (.getfield 15, 3) := by decide +kernel
theorem dX8_append_58 : decode cX8_append 58 = .ok (.iconst 1, 1) := by decide +kernel
theorem dX8_append_59 : decode cX8_append 59 = .ok (.iadd, 1) := by decide +kernel
theorem dX8_append_60 : decode cX8_append 60 = .ok (.putfield 15, 3) := by decide +kernel
theorem dX8_append_63 : decode cX8_append 63 = .ok (.iinc 3 1, 3) := by decide +kernel
theorem dX8_append_66 : decode cX8_append 66 = .ok (.goto (-40), 3) := by decide +kernel
theorem dX8_append_69 : decode cX8_append 69 = .ok (.iconst 1, 1) := by decide +kernel
theorem dX8_append_70 : decode cX8_append 70 = .ok (.ireturn, 1) := by decide +kernel
theorem dX8_readInto_0 : decode cX8_readInto 0 = .ok (.aload_n 1, 1) := by decide +kernel
theorem dX8_readInto_1 : decode cX8_readInto 1 = .ok (.invokevirtual 19, 3) := by decide +kernel
theorem dX8_readInto_4 : decode cX8_readInto 4 = .ok (.aload_n 0, 1) := by decide +kernel
theorem dX8_readInto_5 : decode cX8_readInto 5 = .ok (.iconst 0, 1) := by decide +kernel
theorem dX8_readInto_6 : decode cX8_readInto 6 = .ok (.putfield 24, 3) := by decide +kernel
theorem dX8_readInto_9 : decode cX8_readInto 9 = .ok (.iconst 0, 1) := by decide +kernel
theorem dX8_readInto_10 : decode cX8_readInto 10 = .ok (.istore_n 3, 1) := by decide +kernel
theorem dX8_readInto_11 : decode cX8_readInto 11 = .ok (.iload_n 3, 1) := by decide +kernel
theorem dX8_readInto_12 : decode cX8_readInto 12 = .ok (.sipush 160, 3) := by decide +kernel
theorem dX8_readInto_15 : decode cX8_readInto 15 = .ok (.if_icmp .ge 54, 3) := by decide +kernel
theorem dX8_readInto_18 : decode cX8_readInto 18 = .ok (.aload_n 0, 1) := by decide +kernel
theorem dX8_readInto_19 : decode cX8_readInto 19 = .ok (.getfield 24, 3) := by decide +kernel
theorem dX8_readInto_22 : decode cX8_readInto 22 = .ok (.aload_n 0, 1) := by decide +kernel
theorem dX8_readInto_23 : decode cX8_readInto 23 = .ok (.getfield 15, 3) := by decide +kernel
theorem dX8_readInto_26 : decode cX8_readInto 26 = .ok (.if_icmp .ge 43, 3) := by decide +kernel
theorem dX8_readInto_29 : decode cX8_readInto 29 = .ok (.aload_n 0, 1) := by decide +kernel
theorem dX8_readInto_30 : decode cX8_readInto 30 = .ok (.getfield 11, 3) := by decide +kernel
theorem dX8_readInto_33 : decode cX8_readInto 33 = .ok (.aload_n 0, 1) := by decide +kernel
theorem dX8_readInto_34 : decode cX8_readInto 34 = .ok (.getfield 24, 3) := by decide +kernel
theorem dX8_readInto_37 : decode cX8_readInto 37 = .ok (.iaload, 1) := by decide +kernel
theorem dX8_readInto_38 : decode cX8_readInto 38 = .ok (.istore 4, 2) := by decide +kernel
theorem dX8_readInto_40 : decode cX8_readInto 40 = .ok (.aload_n 0, 1) := by decide +kernel
theorem dX8_readInto_41 : decode cX8_readInto 41 = .ok (.dup, 1) := by decide +kernel
theorem dX8_readInto_42 : decode cX8_readInto 42 = .ok (.getfield 24, 3) := by decide +kernel
theorem dX8_readInto_45 : decode cX8_readInto 45 = .ok (.iconst 1, 1) := by decide +kernel
theorem dX8_readInto_46 : decode cX8_readInto 46 = .ok (.iadd, 1) := by decide +kernel
theorem dX8_readInto_47 : decode cX8_readInto 47 = .ok (.putfield 24, 3) := by decide +kernel
theorem dX8_readInto_50 : decode cX8_readInto 50 = .ok (.aload_n 0, 1) := by decide +kernel
theorem dX8_readInto_51 : decode cX8_readInto 51 = .ok (.aload_n 1, 1) := by decide +kernel
theorem dX8_readInto_52 : decode cX8_readInto 52 = .ok (.aload_n 2, 1) := by decide +kernel
theorem dX8_readInto_53 : decode cX8_readInto 53 = .ok (.iload 4, 2) := by decide +kernel
theorem dX8_readInto_55 : decode cX8_readInto 55 = .ok (.invokevirtual 27, 3) := by decide +kernel
theorem dX8_readInto_58 : decode cX8_readInto 58 = .ok (.ifCond .ne 5, 3) := by decide +kernel
theorem dX8_readInto_61 : decode cX8_readInto 61 = .ok (.iconst 0, 1) := by decide +kernel
theorem dX8_readInto_62 : decode cX8_readInto 62 = .ok (.ireturn, 1) := by decide +kernel
theorem dX8_readInto_63 : decode cX8_readInto 63 = .ok (.iinc 3 1, 3) := by decide +kernel
theorem dX8_readInto_66 : decode cX8_readInto 66 = .ok (.goto (-55), 3) := by decide +kernel
theorem dX8_readInto_69 : decode cX8_readInto 69 = .ok (.iconst 1, 1) := by decide +kernel
theorem dX8_readInto_70 : decode cX8_readInto 70 = .ok (.ireturn, 1) := by decide +kernel
theorem dX8_readCode_0 : decode cX8_readCode 0 = .ok (.iload_n 3, 1) := by decide +kernel
theorem dX8_readCode_1 : decode cX8_readCode 1 = .ok (.invokestatic 31, 3) := by decide +kernel
theorem dX8_readCode_4 : decode cX8_readCode 4 = .ok (.ifCond .eq 10, 3) := by decide +kernel
theorem dX8_readCode_7 : decode cX8_readCode 7 = .ok (.aload_n 0, 1) := by decide +kernel
theorem dX8_readCode_8 : decode cX8_readCode 8 = .ok (.aload_n 1, 1) := by decide +kernel
theorem dX8_readCode_9 : decode cX8_readCode 9 = .ok (.iload_n 3, 1) := by decide +kernel
theorem dX8_readCode_10 : decode cX8_readCode 10 = .ok (.invokevirtual 37, 3) := by decide +kernel
theorem dX8_readCode_13 : decode cX8_readCode 13 = .ok (.ireturn, 1) := by decide +kernel
theorem dX8_readCode_14 : decode cX8_readCode 14 = .ok (.iload_n 3, 1) := by decide +kernel
theorem dX8_readCode_15 : decode cX8_readCode 15 = .ok (.bipush 16, 2) := by decide +kernel
theorem dX8_readCode_17 : decode cX8_readCode 17 = .ok (.isub, 1) := by decide +kernel
theorem dX8_readCode_18 : decode cX8_readCode 18 = .ok (.istore 4, 2) := by decide +kernel
theorem dX8_readCode_20 : decode cX8_readCode 20 = .ok (.iload 4, 2) := by decide +kernel
theorem dX8_readCode_22 : decode cX8_readCode 22 = .ok (.aload_n 2, 1) := by decide +kernel
theorem dX8_readCode_23 : decode cX8_readCode 23 = .ok (.getfield 41, 3) := by decide +kernel
theorem dX8_readCode_26 : decode cX8_readCode 26 = .ok (.if_icmp .lt 5, 3) := by decide +kernel
theorem dX8_readCode_29 : decode cX8_readCode 29 = .ok (.iconst 0, 1) := by decide +kernel
theorem dX8_readCode_30 : decode cX8_readCode 30 = .ok (.ireturn, 1) := by decide +kernel
theorem dX8_readCode_31 : decode cX8_readCode 31 = .ok (.iconst 0, 1) := by decide +kernel
theorem dX8_readCode_32 : decode cX8_readCode 32 = .ok (.istore 5, 2) := by decide +kernel
theorem dX8_readCode_34 : decode cX8_readCode 34 = .ok (.iload 5, 2) := by decide +kernel
theorem dX8_readCode_36 : decode cX8_readCode 36 = .ok (.iconst 4, 1) := by decide +kernel
theorem dX8_readCode_37 : decode cX8_readCode 37 = .ok (.if_icmp .ge 39, 3) := by decide +kernel
theorem dX8_readCode_40 : decode cX8_readCode 40 = .ok (.aload_n 2, 1) := by decide +kernel
theorem dX8_readCode_41 : decode cX8_readCode 41 = .ok (.iload 4, 2) := by decide +kernel
theorem dX8_readCode_43 : decode cX8_readCode 43 = .ok (.iload 5, 2) := by decide +kernel
theorem dX8_readCode_45 : decode cX8_readCode 45 = .ok (.invokevirtual 46, 3) := by decide +kernel
theorem dX8_readCode_48 : decode cX8_readCode 48 = .ok (.iconst (-1), 1) := by decide +kernel
theorem dX8_readCode_49 : decode cX8_readCode 49 = .ok (.if_icmp .eq 27, 3) := by decide +kernel
theorem dX8_readCode_52 : decode cX8_readCode 52 = .ok (.aload_n 0, 1) := by decide +kernel
theorem dX8_readCode_53 : decode cX8_readCode 53 = .ok (.aload_n 1, 1) := by decide +kernel
theorem dX8_readCode_54 : decode cX8_readCode 54 = .ok (.aload_n 2, 1) := by decide +kernel
theorem dX8_readCode_55 : decode cX8_readCode 55 = .ok (.iload 4, 2) := by decide +kernel
theorem dX8_readCode_57 : decode cX8_readCode 57 = .ok (.iload 5, 2) := by decide +kernel
theorem dX8_readCode_59 : decode cX8_readCode 59 = .ok (.invokevirtual 46, 3) := by decide +kernel
theorem dX8_readCode_62 : decode cX8_readCode 62 = .ok (.invokevirtual 37, 3) := by decide +kernel
theorem dX8_readCode_65 : decode cX8_readCode 65 = .ok (.ifCond .ne 5, 3) := by decide +kernel
theorem dX8_readCode_68 : decode cX8_readCode 68 = .ok (.iconst 0, 1) := by decide +kernel
theorem dX8_readCode_69 : decode cX8_readCode 69 = .ok (.ireturn, 1) := by decide +kernel
theorem dX8_readCode_70 : decode cX8_readCode 70 = .ok (.iinc 5 1, 3) := by decide +kernel
theorem dX8_readCode_73 : decode cX8_readCode 73 = .ok (.goto (-39), 3) := by decide +kernel
theorem dX8_readCode_76 : decode cX8_readCode 76 = .ok (.iconst 1, 1) := by decide +kernel
theorem dX8_readCode_77 : decode cX8_readCode 77 = .ok (.ireturn, 1) := by decide +kernel
theorem dX8_readOrder_0 : decode cX8_readOrder 0 = .ok (.iload_n 2, 1) := by decide +kernel
theorem dX8_readOrder_1 : decode cX8_readOrder 1 = .ok (.invokestatic 50, 3) := by decide +kernel
theorem dX8_readOrder_4 : decode cX8_readOrder 4 = .ok (.ifCond .ne 10, 3) := by decide +kernel
theorem dX8_readOrder_7 : decode cX8_readOrder 7 = .ok (.aload_n 1, 1) := by decide +kernel
theorem dX8_readOrder_8 : decode cX8_readOrder 8 = .ok (.iload_n 2, 1) := by decide +kernel
theorem dX8_readOrder_9 : decode cX8_readOrder 9 = .ok (.iconst 0, 1) := by decide +kernel
theorem dX8_readOrder_10 : decode cX8_readOrder 10 = .ok (.invokevirtual 53, 3) := by decide +kernel
theorem dX8_readOrder_13 : decode cX8_readOrder 13 = .ok (.ireturn, 1) := by decide +kernel
theorem dX8_readOrder_14 : decode cX8_readOrder 14 = .ok (.aload_n 0, 1) := by decide +kernel
theorem dX8_readOrder_15 : decode cX8_readOrder 15 = .ok (.getfield 24, 3) := by decide +kernel
theorem dX8_readOrder_18 : decode cX8_readOrder 18 = .ok (.aload_n 0, 1) := by decide +kernel
theorem dX8_readOrder_19 : decode cX8_readOrder 19 = .ok (.getfield 15, 3) := by decide +kernel
theorem dX8_readOrder_22 : decode cX8_readOrder 22 = .ok (.if_icmp .lt 5, 3) := by decide +kernel
theorem dX8_readOrder_25 : decode cX8_readOrder 25 = .ok (.iconst 0, 1) := by decide +kernel
theorem dX8_readOrder_26 : decode cX8_readOrder 26 = .ok (.ireturn, 1) := by decide +kernel
theorem dX8_readOrder_27 : decode cX8_readOrder 27 = .ok (.iload_n 2, 1) := by decide +kernel
theorem dX8_readOrder_28 : decode cX8_readOrder 28 = .ok (.ifCond .ne 16, 3) := by decide +kernel
theorem dX8_readOrder_31 : decode cX8_readOrder 31 = .ok (.aload_n 0, 1) := by decide +kernel
theorem dX8_readOrder_32 : decode cX8_readOrder 32 = .ok (.getfield 11, 3) := by decide +kernel
theorem dX8_readOrder_35 : decode cX8_readOrder 35 = .ok (.aload_n 0, 1) := by decide +kernel
theorem dX8_readOrder_36 : decode cX8_readOrder 36 = .ok (.getfield 24, 3) := by decide +kernel
theorem dX8_readOrder_39 : decode cX8_readOrder 39 = .ok (.iaload, 1) := by decide +kernel
theorem dX8_readOrder_40 : decode cX8_readOrder 40 = .ok (.i2b, 1) := by decide +kernel
theorem dX8_readOrder_41 : decode cX8_readOrder 41 = .ok (.goto 12, 3) := by decide +kernel
theorem dX8_readOrder_44 : decode cX8_readOrder 44 = .ok (.aload_n 0, 1) := by decide +kernel
theorem dX8_readOrder_45 : decode cX8_readOrder 45 = .ok (.getfield 11, 3) := by decide +kernel
theorem dX8_readOrder_48 : decode cX8_readOrder 48 = .ok (.aload_n 0, 1) := by decide +kernel
theorem dX8_readOrder_49 : decode cX8_readOrder 49 = .ok (.getfield 24, 3) := by decide +kernel
theorem dX8_readOrder_52 : decode cX8_readOrder 52 = .ok (.iaload, 1) := by decide +kernel
theorem dX8_readOrder_53 : decode cX8_readOrder 53 = .ok (.istore_n 3, 1) := by decide +kernel
theorem dX8_readOrder_54 : decode cX8_readOrder 54 = .ok (.aload_n 0, 1) := by decide +kernel
theorem dX8_readOrder_55 : decode cX8_readOrder 55 = .ok (.dup, 1) := by decide +kernel
theorem dX8_readOrder_56 : decode cX8_readOrder 56 = .ok (.getfield 24, 3) := by decide +kernel
theorem dX8_readOrder_59 : decode cX8_readOrder 59 = .ok (.iconst 1, 1) := by decide +kernel
theorem dX8_readOrder_60 : decode cX8_readOrder 60 = .ok (.iadd, 1) := by decide +kernel
theorem dX8_readOrder_61 : decode cX8_readOrder 61 = .ok (.putfield 24, 3) := by decide +kernel
theorem dX8_readOrder_64 : decode cX8_readOrder 64 = .ok (.aload_n 1, 1) := by decide +kernel
theorem dX8_readOrder_65 : decode cX8_readOrder 65 = .ok (.iload_n 2, 1) := by decide +kernel
theorem dX8_readOrder_66 : decode cX8_readOrder 66 = .ok (.iload_n 3, 1) := by decide +kernel
theorem dX8_readOrder_67 : decode cX8_readOrder 67 = .ok (.invokevirtual 53, 3) := by decide +kernel
theorem dX8_readOrder_70 : decode cX8_readOrder 70 = .ok (.ireturn, 1) := by decide +kernel
theorem dX8_copyFrom_0 : decode cX8_copyFrom 0 = .ok (.aload_n 0, 1) := by decide +kernel
theorem dX8_copyFrom_1 : decode cX8_copyFrom 1 = .ok (.aload_n 1, 1) := by decide +kernel
theorem dX8_copyFrom_2 : decode cX8_copyFrom 2 = .ok (.getfield 15, 3) := by decide +kernel
theorem dX8_copyFrom_5 : decode cX8_copyFrom 5 = .ok (.putfield 15, 3) := by decide +kernel
theorem dX8_copyFrom_8 : decode cX8_copyFrom 8 = .ok (.aload_n 1, 1) := by decide +kernel
theorem dX8_copyFrom_9 : decode cX8_copyFrom 9 = .ok (.getfield 11, 3) := by decide +kernel
theorem dX8_copyFrom_12 : decode cX8_copyFrom 12 = .ok (.iconst 0, 1) := by decide +kernel
theorem dX8_copyFrom_13 : decode cX8_copyFrom 13 = .ok (.aload_n 0, 1) := by decide +kernel
theorem dX8_copyFrom_14 : decode cX8_copyFrom 14 = .ok (.getfield 11, 3) := by decide +kernel
theorem dX8_copyFrom_17 : decode cX8_copyFrom 17 = .ok (.iconst 0, 1) := by decide +kernel
theorem dX8_copyFrom_18 : decode cX8_copyFrom 18 = .ok (.sipush 160, 3) := by decide +kernel
theorem dX8_copyFrom_21 : decode cX8_copyFrom 21 = .ok (.invokestatic 57, 3) := by decide +kernel
theorem dX8_copyFrom_24 : decode cX8_copyFrom 24 = .ok (.return_, 1) := by decide +kernel
theorem dX9_init_0 : decode cX9_init 0 = .ok (.aload_n 0, 1) := by decide +kernel
theorem dX9_init_1 : decode cX9_init 1 = .ok (.invokespecial 3, 3) := by decide +kernel
theorem dX9_init_4 : decode cX9_init 4 = .ok (.aload_n 0, 1) := by decide +kernel
theorem dX9_init_5 : decode cX9_init 5 = .ok (.bipush 40, 2) := by decide +kernel
theorem dX9_init_7 : decode cX9_init 7 = .ok (.newarray .int, 2) := by decide +kernel
theorem dX9_init_9 : decode cX9_init 9 = .ok (.putfield 11, 3) := by decide +kernel
theorem dX9_init_12 : decode cX9_init 12 = .ok (.aload_n 0, 1) := by decide +kernel
theorem dX9_init_13 : decode cX9_init 13 = .ok (.bipush 40, 2) := by decide +kernel
theorem dX9_init_15 : decode cX9_init 15 = .ok (.newarray .int, 2) := by decide +kernel
theorem dX9_init_17 : decode cX9_init 17 = .ok (.putfield 17, 3) := by decide +kernel
theorem dX9_init_20 : decode cX9_init 20 = .ok (.aload_n 0, 1) := by decide +kernel
theorem dX9_init_21 : decode cX9_init 21 = .ok (.bipush 41, 2) := by decide +kernel
theorem dX9_init_23 : decode cX9_init 23 = .ok (.newarray .int, 2) := by decide +kernel
theorem dX9_init_25 : decode cX9_init 25 = .ok (.putfield 20, 3) := by decide +kernel
theorem dX9_init_28 : decode cX9_init 28 = .ok (.return_, 1) := by decide +kernel
theorem dX9_measure_0 : decode cX9_measure 0 = .ok (.aload_n 0, 1) := by decide +kernel
theorem dX9_measure_1 : decode cX9_measure 1 = .ok (.getfield 20, 3) := by decide +kernel
theorem dX9_measure_4 : decode cX9_measure 4 = .ok (.aload_n 1, 1) := by decide +kernel
theorem dX9_measure_5 : decode cX9_measure 5 = .ok (.getfield 23, 3) := by decide +kernel
theorem dX9_measure_8 : decode cX9_measure 8 = .ok (.iconst 0, 1) := by decide +kernel
theorem dX9_measure_9 : decode cX9_measure 9 = .ok (.iastore, 1) := by decide +kernel
theorem dX9_measure_10 : decode cX9_measure 10 = .ok (.aload_n 1, 1) := by decide +kernel
theorem dX9_measure_11 : decode cX9_measure 11 = .ok (.getfield 23, 3) := by decide +kernel
theorem dX9_measure_14 : decode cX9_measure 14 = .ok (.iconst 1, 1) := by decide +kernel
theorem dX9_measure_15 : decode cX9_measure 15 = .ok (.isub, 1) := by decide +kernel
theorem dX9_measure_16 : decode cX9_measure 16 = .ok (.istore 4, 2) := by decide +kernel
theorem dX9_measure_18 : decode cX9_measure 18 = .ok (.iload 4, 2) := by decide +kernel
theorem dX9_measure_20 : decode cX9_measure 20 = .ok (.ifCond .lt 47, 3) := by decide +kernel
theorem dX9_measure_23 : decode cX9_measure 23 = .ok (.aload_n 0, 1) := by decide +kernel
theorem dX9_measure_24 : decode cX9_measure 24 = .ok (.aload_n 1, 1) := by decide +kernel
theorem dX9_measure_25 : decode cX9_measure 25 = .ok (.aload_n 2, 1) := by decide +kernel
theorem dX9_measure_26 : decode cX9_measure 26 = .ok (.iload 4, 2) := by decide +kernel
theorem dX9_measure_28 : decode cX9_measure 28 = .ok (.invokevirtual 27, 3) := by decide +kernel
theorem dX9_measure_31 : decode cX9_measure 31 = .ok (.aload_n 0, 1) := by decide +kernel
theorem dX9_measure_32 : decode cX9_measure 32 = .ok (.getfield 20, 3) := by decide +kernel
theorem dX9_measure_35 : decode cX9_measure 35 = .ok (.iload 4, 2) := by decide +kernel
theorem dX9_measure_37 : decode cX9_measure 37 = .ok (.aload_n 1, 1) := by decide +kernel
theorem dX9_measure_38 : decode cX9_measure 38 = .ok (.iload 4, 2) := by decide +kernel
theorem dX9_measure_40 : decode cX9_measure 40 = .ok (.iload_n 3, 1) := by decide +kernel
theorem dX9_measure_41 : decode cX9_measure 41 = .ok (.invokevirtual 31, 3) := by decide +kernel
theorem dX9_measure_44 : decode cX9_measure 44 = .ok (.aload_n 0, 1) := by decide +kernel
theorem dX9_measure_45 : decode cX9_measure 45 = .ok (.getfield 20, 3) := by decide +kernel
theorem dX9_measure_48 : decode cX9_measure 48 = .ok (.iload 4, 2) := by decide +kernel
theorem dX9_measure_50 : decode cX9_measure 50 = .ok (.aload_n 0, 1) := by decide +kernel
theorem dX9_measure_51 : decode cX9_measure 51 = .ok (.getfield 11, 3) := by decide +kernel
theorem dX9_measure_54 : decode cX9_measure 54 = .ok (.iload 4, 2) := by decide +kernel
theorem dX9_measure_56 : decode cX9_measure 56 = .ok (.iaload, 1) := by decide +kernel
theorem dX9_measure_57 : decode cX9_measure 57 = .ok (.iadd, 1) := by decide +kernel
theorem dX9_measure_58 : decode cX9_measure 58 = .ok (.iaload, 1) := by decide +kernel
theorem dX9_measure_59 : decode cX9_measure 59 = .ok (.iadd, 1) := by decide +kernel
theorem dX9_measure_60 : decode cX9_measure 60 = .ok (.iastore, 1) := by decide +kernel
theorem dX9_measure_61 : decode cX9_measure 61 = .ok (.iinc 4 (-1), 3) := by decide +kernel
theorem dX9_measure_64 : decode cX9_measure 64 = .ok (.goto (-46), 3) := by decide +kernel
theorem dX9_measure_67 : decode cX9_measure 67 = .ok (.aload_n 0, 1) := by decide +kernel
theorem dX9_measure_68 : decode cX9_measure 68 = .ok (.getfield 20, 3) := by decide +kernel
theorem dX9_measure_71 : decode cX9_measure 71 = .ok (.iconst 0, 1) := by decide +kernel
theorem dX9_measure_72 : decode cX9_measure 72 = .ok (.iaload, 1) := by decide +kernel
theorem dX9_measure_73 : decode cX9_measure 73 = .ok (.ireturn, 1) := by decide +kernel
theorem dX9_begin_0 : decode cX9_begin 0 = .ok (.aload_n 0, 1) := by decide +kernel
theorem dX9_begin_1 : decode cX9_begin 1 = .ok (.getfield 11, 3) := by decide +kernel
theorem dX9_begin_4 : decode cX9_begin 4 = .ok (.iload_n 3, 1) := by decide +kernel
theorem dX9_begin_5 : decode cX9_begin 5 = .ok (.iconst 1, 1) := by decide +kernel
theorem dX9_begin_6 : decode cX9_begin 6 = .ok (.iastore, 1) := by decide +kernel
theorem dX9_begin_7 : decode cX9_begin 7 = .ok (.aload_n 0, 1) := by decide +kernel
theorem dX9_begin_8 : decode cX9_begin 8 = .ok (.getfield 17, 3) := by decide +kernel
theorem dX9_begin_11 : decode cX9_begin 11 = .ok (.iload_n 3, 1) := by decide +kernel
theorem dX9_begin_12 : decode cX9_begin 12 = .ok (.aload_n 1, 1) := by decide +kernel
theorem dX9_begin_13 : decode cX9_begin 13 = .ok (.getfield 35, 3) := by decide +kernel
theorem dX9_begin_16 : decode cX9_begin 16 = .ok (.iload_n 3, 1) := by decide +kernel
theorem dX9_begin_17 : decode cX9_begin 17 = .ok (.iaload, 1) := by decide +kernel
theorem dX9_begin_18 : decode cX9_begin 18 = .ok (.iastore, 1) := by decide +kernel
theorem dX9_begin_19 : decode cX9_begin 19 = .ok (.aload_n 1, 1) := by decide +kernel
theorem dX9_begin_20 : decode cX9_begin 20 = .ok (.iload_n 3, 1) := by decide +kernel
theorem dX9_begin_21 : decode cX9_begin 21 = .ok (.invokevirtual 38, 3) := by decide +kernel
theorem dX9_begin_24 : decode cX9_begin 24 = .ok (.istore 4, 2) := by decide +kernel
theorem dX9_begin_26 : decode cX9_begin 26 = .ok (.iconst 0, 1) := by decide +kernel
theorem dX9_begin_27 : decode cX9_begin 27 = .ok (.iconst 0, 1) := by decide +kernel
theorem dX9_begin_28 : decode cX9_begin 28 = .ok (.aload_n 1, 1) := by decide +kernel
theorem dX9_begin_29 : decode cX9_begin 29 = .ok (.getfield 35, 3) := by decide +kernel
theorem dX9_begin_32 : decode cX9_begin 32 = .ok (.iload_n 3, 1) := by decide +kernel
theorem dX9_begin_33 : decode cX9_begin 33 = .ok (.iaload, 1) := by decide +kernel
theorem dX9_begin_34 : decode cX9_begin 34 = .ok (.invokestatic 42, 3) := by decide +kernel
theorem dX9_begin_37 : decode cX9_begin 37 = .ok (.istore 5, 2) := by decide +kernel
theorem dX9_begin_39 : decode cX9_begin 39 = .ok (.iconst 2, 1) := by decide +kernel
theorem dX9_begin_40 : decode cX9_begin 40 = .ok (.istore 6, 2) := by decide +kernel
theorem dX9_begin_42 : decode cX9_begin 42 = .ok (.iload 6, 2) := by decide +kernel
theorem dX9_begin_44 : decode cX9_begin 44 = .ok (.iload 4, 2) := by decide +kernel
theorem dX9_begin_46 : decode cX9_begin 46 = .ok (.if_icmp .gt 89, 3) := by decide +kernel
theorem dX9_begin_49 : decode cX9_begin 49 = .ok (.iload 5, 2) := by decide +kernel
theorem dX9_begin_51 : decode cX9_begin 51 = .ok (.iload 6, 2) := by decide +kernel
theorem dX9_begin_53 : decode cX9_begin 53 = .ok (.iconst 1, 1) := by decide +kernel
theorem dX9_begin_54 : decode cX9_begin 54 = .ok (.isub, 1) := by decide +kernel
theorem dX9_begin_55 : decode cX9_begin 55 = .ok (.aload_n 1, 1) := by decide +kernel
theorem dX9_begin_56 : decode cX9_begin 56 = .ok (.getfield 35, 3) := by decide +kernel
theorem dX9_begin_59 : decode cX9_begin 59 = .ok (.iload_n 3, 1) := by decide +kernel
theorem dX9_begin_60 : decode cX9_begin 60 = .ok (.iload 6, 2) := by decide +kernel
theorem dX9_begin_62 : decode cX9_begin 62 = .ok (.iadd, 1) := by decide +kernel
theorem dX9_begin_63 : decode cX9_begin 63 = .ok (.iconst 1, 1) := by decide +kernel
theorem dX9_begin_64 : decode cX9_begin 64 = .ok (.isub, 1) := by decide +kernel
theorem dX9_begin_65 : decode cX9_begin 65 = .ok (.iaload, 1) := by decide +kernel
theorem dX9_begin_66 : decode cX9_begin 66 = .ok (.invokestatic 42, 3) := by decide +kernel
theorem dX9_begin_69 : decode cX9_begin 69 = .ok (.istore 5, 2) := by decide +kernel
theorem dX9_begin_71 : decode cX9_begin 71 = .ok (.aload_n 2, 1) := by decide +kernel
theorem dX9_begin_72 : decode cX9_begin 72 = .ok (.iload 5, 2) := by decide +kernel
theorem dX9_begin_74 : decode cX9_begin 74 = .ok (.invokevirtual 48, 3) := by decide +kernel
theorem dX9_begin_77 : decode cX9_begin 77 = .ok (.istore 7, 2) := by decide +kernel
theorem dX9_begin_79 : decode cX9_begin 79 = .ok (.iload 7, 2) := by decide +kernel
theorem dX9_begin_81 : decode cX9_begin 81 = .ok (.iconst (-1), 1) := by decide +kernel
theorem dX9_begin_82 : decode cX9_begin 82 = .ok (.if_icmp .eq 47, 3) := by decide +kernel
theorem dX9_begin_85 : decode cX9_begin 85 = .ok (.aload_n 0, 1) := by decide +kernel
theorem dX9_begin_86 : decode cX9_begin 86 = .ok (.getfield 20, 3) := by decide +kernel
theorem dX9_begin_89 : decode cX9_begin 89 = .ok (.iload_n 3, 1) := by decide +kernel
theorem dX9_begin_90 : decode cX9_begin 90 = .ok (.iload 6, 2) := by decide +kernel
theorem dX9_begin_92 : decode cX9_begin 92 = .ok (.iadd, 1) := by decide +kernel
theorem dX9_begin_93 : decode cX9_begin 93 = .ok (.iaload, 1) := by decide +kernel
theorem dX9_begin_94 : decode cX9_begin 94 = .ok (.aload_n 0, 1) := by decide +kernel
theorem dX9_begin_95 : decode cX9_begin 95 = .ok (.getfield 20, 3) := by decide +kernel
theorem dX9_begin_98 : decode cX9_begin 98 = .ok (.iload_n 3, 1) := by decide +kernel
theorem dX9_begin_99 : decode cX9_begin 99 = .ok (.aload_n 0, 1) := by decide +kernel
theorem dX9_begin_100 : decode cX9_begin 100 = .ok (.getfield 11, 3) := by decide +kernel
theorem dX9_begin_103 : decode cX9_begin 103 = .ok (.iload_n 3, 1) := by decide +kernel
theorem dX9_begin_104 : decode cX9_begin 104 = .ok (.iaload, 1) := by decide +kernel
theorem dX9_begin_105 : decode cX9_begin 105 = .ok (.iadd, 1) := by decide +kernel
theorem dX9_begin_106 : decode cX9_begin 106 = .ok (.iaload, 1) := by decide +kernel
theorem dX9_begin_107 : decode cX9_begin 107 = .ok (.if_icmp .gt 22, 3) := by decide +kernel
theorem dX9_begin_110 : decode cX9_begin 110 = .ok (.aload_n 0, 1) := by decide +kernel
theorem dX9_begin_111 : decode cX9_begin 111 = .ok (.getfield 11, 3) := by decide +kernel
theorem dX9_begin_114 : decode cX9_begin 114 = .ok (.iload_n 3, 1) := by decide +kernel
theorem dX9_begin_115 : decode cX9_begin 115 = .ok (.iload 6, 2) := by decide +kernel
theorem dX9_begin_117 : decode cX9_begin 117 = .ok (.iastore, 1) := by decide +kernel
theorem dX9_begin_118 : decode cX9_begin 118 = .ok (.aload_n 0, 1) := by decide +kernel
theorem dX9_begin_119 : decode cX9_begin 119 = .ok (.getfield 17, 3) := by decide +kernel
theorem dX9_begin_122 : decode cX9_begin 122 = .ok (.iload_n 3, 1) := by decide +kernel
theorem dX9_begin_123 : decode cX9_begin 123 = .ok (.bipush 16, 2) := by decide +kernel
theorem dX9_begin_125 : decode cX9_begin 125 = .ok (.iload 7, 2) := by decide +kernel
theorem dX9_begin_127 : decode cX9_begin 127 = .ok (.iadd, 1) := by decide +kernel
theorem dX9_begin_128 : decode cX9_begin 128 = .ok (.iastore, 1) := by decide +kernel
theorem dX9_begin_129 : decode cX9_begin 129 = .ok (.iinc 6 1, 3) := by decide +kernel
theorem dX9_begin_132 : decode cX9_begin 132 = .ok (.goto (-90), 3) := by decide +kernel
theorem dX9_begin_135 : decode cX9_begin 135 = .ok (.return_, 1) := by decide +kernel
theorem dX10_init_0 : decode cX10_init 0 = .ok (.aload_n 0, 1) := by decide +kernel
theorem dX10_init_1 : decode cX10_init 1 = .ok (.invokespecial 1, 3) := by decide +kernel
theorem dX10_init_4 : decode cX10_init 4 = .ok (.aload_n 0, 1) := by decide +kernel
theorem dX10_init_5 : decode cX10_init 5 = .ok (.new 7, 3) := by decide +kernel
theorem dX10_init_8 : decode cX10_init 8 = .ok (.dup, 1) := by decide +kernel
theorem dX10_init_9 : decode cX10_init 9 = .ok (.invokespecial 9, 3) := by decide +kernel
theorem dX10_init_12 : decode cX10_init 12 = .ok (.putfield 10, 3) := by decide +kernel
theorem dX10_init_15 : decode cX10_init 15 = .ok (.aload_n 0, 1) := by decide +kernel
theorem dX10_init_16 : decode cX10_init 16 = .ok (.iconst 3, 1) := by decide +kernel
theorem dX10_init_17 : decode cX10_init 17 = .ok (.anewarray 7, 3) := by decide +kernel
theorem dX10_init_20 : decode cX10_init 20 = .ok (.putfield 16, 3) := by decide +kernel
theorem dX10_init_23 : decode cX10_init 23 = .ok (.aload_n 0, 1) := by decide +kernel
theorem dX10_init_24 : decode cX10_init 24 = .ok (.new 20, 3) := by decide +kernel
theorem dX10_init_27 : decode cX10_init 27 = .ok (.dup, 1) := by decide +kernel
theorem dX10_init_28 : decode cX10_init 28 = .ok (.invokespecial 22, 3) := by decide +kernel
theorem dX10_init_31 : decode cX10_init 31 = .ok (.putfield 23, 3) := by decide +kernel
theorem dX10_init_34 : decode cX10_init 34 = .ok (.aload_n 0, 1) := by decide +kernel
theorem dX10_init_35 : decode cX10_init 35 = .ok (.new 27, 3) := by decide +kernel
theorem dX10_init_38 : decode cX10_init 38 = .ok (.dup, 1) := by decide +kernel
theorem dX10_init_39 : decode cX10_init 39 = .ok (.invokespecial 29, 3) := by decide +kernel
theorem dX10_init_42 : decode cX10_init 42 = .ok (.putfield 30, 3) := by decide +kernel
theorem dX10_init_45 : decode cX10_init 45 = .ok (.return_, 1) := by decide +kernel
theorem dX10_program_0 : decode cX10_program 0 = .ok (.aload_n 0, 1) := by decide +kernel
theorem dX10_program_1 : decode cX10_program 1 = .ok (.getfield 10, 3) := by decide +kernel
theorem dX10_program_4 : decode cX10_program 4 = .ok (.getfield 34, 3) := by decide +kernel
theorem dX10_program_7 : decode cX10_program 7 = .ok (.iconst 3, 1) := by decide +kernel
theorem dX10_program_8 : decode cX10_program 8 = .ok (.if_icmp .lt 5, 3) := by decide +kernel
theorem dX10_program_11 : decode cX10_program 11 = .ok (.iconst (-1), 1) := by decide +kernel
theorem dX10_program_12 : decode cX10_program 12 = .ok (.ireturn, 1) := by decide +kernel
theorem dX10_program_13 : decode cX10_program 13 = .ok (.aload_n 0, 1) := by decide +kernel
theorem dX10_program_14 : decode cX10_program 14 = .ok (.getfield 10, 3) := by decide +kernel
theorem dX10_program_17 : decode cX10_program 17 = .ok (.getfield 38, 3) := by decide +kernel
theorem dX10_program_20 : decode cX10_program 20 = .ok (.aload_n 0, 1) := by decide +kernel
theorem dX10_program_21 : decode cX10_program 21 = .ok (.getfield 10, 3) := by decide +kernel
theorem dX10_program_24 : decode cX10_program 24 = .ok (.getfield 34, 3) := by decide +kernel
theorem dX10_program_27 : decode cX10_program 27 = .ok (.aaload, 1) := by decide +kernel
theorem dX10_program_28 : decode cX10_program 28 = .ok (.invokevirtual 42, 3) := by decide +kernel
theorem dX10_program_31 : decode cX10_program 31 = .ok (.aload_n 0, 1) := by decide +kernel
theorem dX10_program_32 : decode cX10_program 32 = .ok (.getfield 10, 3) := by decide +kernel
theorem dX10_program_35 : decode cX10_program 35 = .ok (.dup, 1) := by decide +kernel
theorem dX10_program_36 : decode cX10_program 36 = .ok (.getfield 34, 3) := by decide +kernel
theorem dX10_program_39 : decode cX10_program 39 = .ok (.iconst 1, 1) := by decide +kernel
theorem dX10_program_40 : decode cX10_program 40 = .ok (.iadd, 1) := by decide +kernel
theorem dX10_program_41 : decode cX10_program 41 = .ok (.putfield 34, 3) := by decide +kernel
theorem dX10_program_44 : decode cX10_program 44 = .ok (.aload_n 0, 1) := by decide +kernel
theorem dX10_program_45 : decode cX10_program 45 = .ok (.getfield 10, 3) := by decide +kernel
theorem dX10_program_48 : decode cX10_program 48 = .ok (.getfield 34, 3) := by decide +kernel
theorem dX10_program_51 : decode cX10_program 51 = .ok (.iconst 1, 1) := by decide +kernel
theorem dX10_program_52 : decode cX10_program 52 = .ok (.isub, 1) := by decide +kernel
theorem dX10_program_53 : decode cX10_program 53 = .ok (.ireturn, 1) := by decide +kernel
theorem dX10_order_0 : decode cX10_order 0 = .ok (.aload_n 0, 1) := by decide +kernel
theorem dX10_order_1 : decode cX10_order 1 = .ok (.getfield 10, 3) := by decide +kernel
theorem dX10_order_4 : decode cX10_order 4 = .ok (.iload_n 1, 1) := by decide +kernel
theorem dX10_order_5 : decode cX10_order 5 = .ok (.invokevirtual 47, 3) := by decide +kernel
theorem dX10_order_8 : decode cX10_order 8 = .ok (.ifCond .ne 5, 3) := by decide +kernel
theorem dX10_order_11 : decode cX10_order 11 = .ok (.iconst (-1), 1) := by decide +kernel
theorem dX10_order_12 : decode cX10_order 12 = .ok (.ireturn, 1) := by decide +kernel
theorem dX10_order_13 : decode cX10_order 13 = .ok (.aload_n 0, 1) := by decide +kernel
theorem dX10_order_14 : decode cX10_order 14 = .ok (.getfield 10, 3) := by decide +kernel
theorem dX10_order_17 : decode cX10_order 17 = .ok (.getfield 38, 3) := by decide +kernel
theorem dX10_order_20 : decode cX10_order 20 = .ok (.iload_n 1, 1) := by decide +kernel
theorem dX10_order_21 : decode cX10_order 21 = .ok (.aaload, 1) := by decide +kernel
theorem dX10_order_22 : decode cX10_order 22 = .ok (.astore 4, 2) := by decide +kernel
theorem dX10_order_24 : decode cX10_order 24 = .ok (.aload 4, 2) := by decide +kernel
theorem dX10_order_26 : decode cX10_order 26 = .ok (.iload_n 2, 1) := by decide +kernel
theorem dX10_order_27 : decode cX10_order 27 = .ok (.iload_n 3, 1) := by decide +kernel
theorem dX10_order_28 : decode cX10_order 28 = .ok (.invokevirtual 51, 3) := by decide +kernel
theorem dX10_order_31 : decode cX10_order 31 = .ok (.ifCond .ne 5, 3) := by decide +kernel
theorem dX10_order_34 : decode cX10_order 34 = .ok (.iconst (-1), 1) := by decide +kernel
theorem dX10_order_35 : decode cX10_order 35 = .ok (.ireturn, 1) := by decide +kernel
theorem dX10_order_36 : decode cX10_order 36 = .ok (.aload 4, 2) := by decide +kernel
theorem dX10_order_38 : decode cX10_order 38 = .ok (.invokevirtual 55, 3) := by decide +kernel
theorem dX10_order_41 : decode cX10_order 41 = .ok (.aload 4, 2) := by decide +kernel
theorem dX10_order_43 : decode cX10_order 43 = .ok (.getfield 58, 3) := by decide +kernel
theorem dX10_order_46 : decode cX10_order 46 = .ok (.iconst 1, 1) := by decide +kernel
theorem dX10_order_47 : decode cX10_order 47 = .ok (.isub, 1) := by decide +kernel
theorem dX10_order_48 : decode cX10_order 48 = .ok (.ireturn, 1) := by decide +kernel
theorem dX10_change_0 : decode cX10_change 0 = .ok (.aload_n 0, 1) := by decide +kernel
theorem dX10_change_1 : decode cX10_change 1 = .ok (.getfield 10, 3) := by decide +kernel
theorem dX10_change_4 : decode cX10_change 4 = .ok (.iload_n 1, 1) := by decide +kernel
theorem dX10_change_5 : decode cX10_change 5 = .ok (.iload_n 2, 1) := by decide +kernel
theorem dX10_change_6 : decode cX10_change 6 = .ok (.invokevirtual 61, 3) := by decide +kernel
theorem dX10_change_9 : decode cX10_change 9 = .ok (.ifCond .ne 5, 3) := by decide +kernel
theorem dX10_change_12 : decode cX10_change 12 = .ok (.iconst 0, 1) := by decide +kernel
theorem dX10_change_13 : decode cX10_change 13 = .ok (.ireturn, 1) := by decide +kernel
theorem dX10_change_14 : decode cX10_change 14 = .ok (.aload_n 0, 1) := by decide +kernel
theorem dX10_change_15 : decode cX10_change 15 = .ok (.getfield 10, 3) := by decide +kernel
theorem dX10_change_18 : decode cX10_change 18 = .ok (.getfield 38, 3) := by decide +kernel
theorem dX10_change_21 : decode cX10_change 21 = .ok (.iload_n 1, 1) := by decide +kernel
theorem dX10_change_22 : decode cX10_change 22 = .ok (.aaload, 1) := by decide +kernel
theorem dX10_change_23 : decode cX10_change 23 = .ok (.astore 4, 2) := by decide +kernel
theorem dX10_change_25 : decode cX10_change 25 = .ok (.aload 4, 2) := by decide +kernel
theorem dX10_change_27 : decode cX10_change 27 = .ok (.iload_n 2, 1) := by decide +kernel
theorem dX10_change_28 : decode cX10_change 28 = .ok (.iload_n 3, 1) := by decide +kernel
theorem dX10_change_29 : decode cX10_change 29 = .ok (.invokevirtual 64, 3) := by decide +kernel
theorem dX10_change_32 : decode cX10_change 32 = .ok (.ifCond .ne 5, 3) := by decide +kernel
theorem dX10_change_35 : decode cX10_change 35 = .ok (.iconst 0, 1) := by decide +kernel
theorem dX10_change_36 : decode cX10_change 36 = .ok (.ireturn, 1) := by decide +kernel
theorem dX10_change_37 : decode cX10_change 37 = .ok (.aload 4, 2) := by decide +kernel
theorem dX10_change_39 : decode cX10_change 39 = .ok (.invokevirtual 55, 3) := by decide +kernel
theorem dX10_change_42 : decode cX10_change 42 = .ok (.iconst 1, 1) := by decide +kernel
theorem dX10_change_43 : decode cX10_change 43 = .ok (.ireturn, 1) := by decide +kernel
theorem dX10_tell_0 : decode cX10_tell 0 = .ok (.aload_n 0, 1) := by decide +kernel
theorem dX10_tell_1 : decode cX10_tell 1 = .ok (.getfield 10, 3) := by decide +kernel
theorem dX10_tell_4 : decode cX10_tell 4 = .ok (.iload_n 1, 1) := by decide +kernel
theorem dX10_tell_5 : decode cX10_tell 5 = .ok (.iload_n 2, 1) := by decide +kernel
theorem dX10_tell_6 : decode cX10_tell 6 = .ok (.invokevirtual 61, 3) := by decide +kernel
theorem dX10_tell_9 : decode cX10_tell 9 = .ok (.ifCond .ne 5, 3) := by decide +kernel
theorem dX10_tell_12 : decode cX10_tell 12 = .ok (.iconst (-1), 1) := by decide +kernel
theorem dX10_tell_13 : decode cX10_tell 13 = .ok (.ireturn, 1) := by decide +kernel
theorem dX10_tell_14 : decode cX10_tell 14 = .ok (.aload_n 0, 1) := by decide +kernel
theorem dX10_tell_15 : decode cX10_tell 15 = .ok (.getfield 10, 3) := by decide +kernel
theorem dX10_tell_18 : decode cX10_tell 18 = .ok (.getfield 38, 3) := by decide +kernel
theorem dX10_tell_21 : decode cX10_tell 21 = .ok (.iload_n 1, 1) := by decide +kernel
theorem dX10_tell_22 : decode cX10_tell 22 = .ok (.aaload, 1) := by decide +kernel
theorem dX10_tell_23 : decode cX10_tell 23 = .ok (.astore 4, 2) := by decide +kernel
theorem dX10_tell_25 : decode cX10_tell 25 = .ok (.iload_n 3, 1) := by decide +kernel
theorem dX10_tell_26 : decode cX10_tell 26 = .ok (.tableswitch 69 0 3 #[30, 38, 46, 54], 30) := by decide +kernel
theorem dX10_tell_56 : decode cX10_tell 56 = .ok (.aload 4, 2) := by decide +kernel
theorem dX10_tell_58 : decode cX10_tell 58 = .ok (.getfield 67, 3) := by decide +kernel
theorem dX10_tell_61 : decode cX10_tell 61 = .ok (.iload_n 2, 1) := by decide +kernel
theorem dX10_tell_62 : decode cX10_tell 62 = .ok (.iaload, 1) := by decide +kernel
theorem dX10_tell_63 : decode cX10_tell 63 = .ok (.ireturn, 1) := by decide +kernel
theorem dX10_tell_64 : decode cX10_tell 64 = .ok (.aload 4, 2) := by decide +kernel
theorem dX10_tell_66 : decode cX10_tell 66 = .ok (.getfield 71, 3) := by decide +kernel
theorem dX10_tell_69 : decode cX10_tell 69 = .ok (.iload_n 2, 1) := by decide +kernel
theorem dX10_tell_70 : decode cX10_tell 70 = .ok (.iaload, 1) := by decide +kernel
theorem dX10_tell_71 : decode cX10_tell 71 = .ok (.ireturn, 1) := by decide +kernel
theorem dX10_tell_72 : decode cX10_tell 72 = .ok (.aload 4, 2) := by decide +kernel
theorem dX10_tell_74 : decode cX10_tell 74 = .ok (.getfield 74, 3) := by decide +kernel
theorem dX10_tell_77 : decode cX10_tell 77 = .ok (.iload_n 2, 1) := by decide +kernel
theorem dX10_tell_78 : decode cX10_tell 78 = .ok (.iaload, 1) := by decide +kernel
theorem dX10_tell_79 : decode cX10_tell 79 = .ok (.ireturn, 1) := by decide +kernel
theorem dX10_tell_80 : decode cX10_tell 80 = .ok (.aload 4, 2) := by decide +kernel
theorem dX10_tell_82 : decode cX10_tell 82 = .ok (.iload_n 2, 1) := by decide +kernel
theorem dX10_tell_83 : decode cX10_tell 83 = .ok (.invokevirtual 77, 3) := by decide +kernel
theorem dX10_tell_86 : decode cX10_tell 86 = .ok (.ifCond .eq 7, 3) := by decide +kernel
theorem dX10_tell_89 : decode cX10_tell 89 = .ok (.iconst 1, 1) := by decide +kernel
theorem dX10_tell_90 : decode cX10_tell 90 = .ok (.goto 4, 3) := by decide +kernel
theorem dX10_tell_93 : decode cX10_tell 93 = .ok (.iconst 0, 1) := by decide +kernel
theorem dX10_tell_94 : decode cX10_tell 94 = .ok (.ireturn, 1) := by decide +kernel
theorem dX10_tell_95 : decode cX10_tell 95 = .ok (.iconst (-1), 1) := by decide +kernel
theorem dX10_tell_96 : decode cX10_tell 96 = .ok (.ireturn, 1) := by decide +kernel
theorem dX10_join_0 : decode cX10_join 0 = .ok (.iload_n 1, 1) := by decide +kernel
theorem dX10_join_1 : decode cX10_join 1 = .ok (.iload_n 2, 1) := by decide +kernel
theorem dX10_join_2 : decode cX10_join 2 = .ok (.iload_n 3, 1) := by decide +kernel
theorem dX10_join_3 : decode cX10_join 3 = .ok (.iload 4, 2) := by decide +kernel
theorem dX10_join_5 : decode cX10_join 5 = .ok (.iload 5, 2) := by decide +kernel
theorem dX10_join_7 : decode cX10_join 7 = .ok (.invokestatic 80, 3) := by decide +kernel
theorem dX10_join_10 : decode cX10_join 10 = .ok (.istore 6, 2) := by decide +kernel
theorem dX10_join_12 : decode cX10_join 12 = .ok (.iload 6, 2) := by decide +kernel
theorem dX10_join_14 : decode cX10_join 14 = .ok (.ifCond .eq 34, 3) := by decide +kernel
theorem dX10_join_17 : decode cX10_join 17 = .ok (.aload_n 0, 1) := by decide +kernel
theorem dX10_join_18 : decode cX10_join 18 = .ok (.getfield 10, 3) := by decide +kernel
theorem dX10_join_21 : decode cX10_join 21 = .ok (.getfield 86, 3) := by decide +kernel
theorem dX10_join_24 : decode cX10_join 24 = .ok (.iload 6, 2) := by decide +kernel
theorem dX10_join_26 : decode cX10_join 26 = .ok (.invokevirtual 90, 3) := by decide +kernel
theorem dX10_join_29 : decode cX10_join 29 = .ok (.iconst (-1), 1) := by decide +kernel
theorem dX10_join_30 : decode cX10_join 30 = .ok (.if_icmp .ne 18, 3) := by decide +kernel
theorem dX10_join_33 : decode cX10_join 33 = .ok (.aload_n 0, 1) := by decide +kernel
theorem dX10_join_34 : decode cX10_join 34 = .ok (.getfield 10, 3) := by decide +kernel
theorem dX10_join_37 : decode cX10_join 37 = .ok (.getfield 86, 3) := by decide +kernel
theorem dX10_join_40 : decode cX10_join 40 = .ok (.iload 6, 2) := by decide +kernel
theorem dX10_join_42 : decode cX10_join 42 = .ok (.invokevirtual 96, 3) := by decide +kernel
theorem dX10_join_45 : decode cX10_join 45 = .ok (.ifCond .ne 5, 3) := by decide +kernel
theorem dX10_join_48 : decode cX10_join 48 = .ok (.iconst (-1), 1) := by decide +kernel
theorem dX10_join_49 : decode cX10_join 49 = .ok (.ireturn, 1) := by decide +kernel
theorem dX10_join_50 : decode cX10_join 50 = .ok (.aload_n 0, 1) := by decide +kernel
theorem dX10_join_51 : decode cX10_join 51 = .ok (.getfield 10, 3) := by decide +kernel
theorem dX10_join_54 : decode cX10_join 54 = .ok (.getfield 86, 3) := by decide +kernel
theorem dX10_join_57 : decode cX10_join 57 = .ok (.getfield 98, 3) := by decide +kernel
theorem dX10_join_60 : decode cX10_join 60 = .ok (.iconst 1, 1) := by decide +kernel
theorem dX10_join_61 : decode cX10_join 61 = .ok (.isub, 1) := by decide +kernel
theorem dX10_join_62 : decode cX10_join 62 = .ok (.ireturn, 1) := by decide +kernel
theorem dX10_part_0 : decode cX10_part 0 = .ok (.aload_n 0, 1) := by decide +kernel
theorem dX10_part_1 : decode cX10_part 1 = .ok (.getfield 10, 3) := by decide +kernel
theorem dX10_part_4 : decode cX10_part 4 = .ok (.getfield 86, 3) := by decide +kernel
theorem dX10_part_7 : decode cX10_part 7 = .ok (.iconst 0, 1) := by decide +kernel
theorem dX10_part_8 : decode cX10_part 8 = .ok (.putfield 98, 3) := by decide +kernel
theorem dX10_part_11 : decode cX10_part 11 = .ok (.return_, 1) := by decide +kernel
theorem dX10_joined_0 : decode cX10_joined 0 = .ok (.aload_n 0, 1) := by decide +kernel
theorem dX10_joined_1 : decode cX10_joined 1 = .ok (.getfield 10, 3) := by decide +kernel
theorem dX10_joined_4 : decode cX10_joined 4 = .ok (.getfield 86, 3) := by decide +kernel
theorem dX10_joined_7 : decode cX10_joined 7 = .ok (.iload_n 1, 1) := by decide +kernel
theorem dX10_joined_8 : decode cX10_joined 8 = .ok (.iload_n 2, 1) := by decide +kernel
theorem dX10_joined_9 : decode cX10_joined 9 = .ok (.invokevirtual 99, 3) := by decide +kernel
theorem dX10_joined_12 : decode cX10_joined 12 = .ok (.ireturn, 1) := by decide +kernel
theorem dX10_pack_0 : decode cX10_pack 0 = .ok (.aload_n 0, 1) := by decide +kernel
theorem dX10_pack_1 : decode cX10_pack 1 = .ok (.getfield 10, 3) := by decide +kernel
theorem dX10_pack_4 : decode cX10_pack 4 = .ok (.iload_n 1, 1) := by decide +kernel
theorem dX10_pack_5 : decode cX10_pack 5 = .ok (.invokevirtual 47, 3) := by decide +kernel
theorem dX10_pack_8 : decode cX10_pack 8 = .ok (.ifCond .ne 5, 3) := by decide +kernel
theorem dX10_pack_11 : decode cX10_pack 11 = .ok (.iconst (-1), 1) := by decide +kernel
theorem dX10_pack_12 : decode cX10_pack 12 = .ok (.ireturn, 1) := by decide +kernel
theorem dX10_pack_13 : decode cX10_pack 13 = .ok (.aload_n 0, 1) := by decide +kernel
theorem dX10_pack_14 : decode cX10_pack 14 = .ok (.getfield 10, 3) := by decide +kernel
theorem dX10_pack_17 : decode cX10_pack 17 = .ok (.getfield 38, 3) := by decide +kernel
theorem dX10_pack_20 : decode cX10_pack 20 = .ok (.iload_n 1, 1) := by decide +kernel
theorem dX10_pack_21 : decode cX10_pack 21 = .ok (.aaload, 1) := by decide +kernel
theorem dX10_pack_22 : decode cX10_pack 22 = .ok (.astore_n 2, 1) := by decide +kernel
theorem dX10_pack_23 : decode cX10_pack 23 = .ok (.aload_n 0, 1) := by decide +kernel
theorem dX10_pack_24 : decode cX10_pack 24 = .ok (.getfield 23, 3) := by decide +kernel
theorem dX10_pack_27 : decode cX10_pack 27 = .ok (.aload_n 2, 1) := by decide +kernel
theorem dX10_pack_28 : decode cX10_pack 28 = .ok (.aload_n 0, 1) := by decide +kernel
theorem dX10_pack_29 : decode cX10_pack 29 = .ok (.getfield 10, 3) := by decide +kernel
theorem dX10_pack_32 : decode cX10_pack 32 = .ok (.getfield 86, 3) := by decide +kernel
theorem dX10_pack_35 : decode cX10_pack 35 = .ok (.iconst 0, 1) := by decide +kernel
theorem dX10_pack_36 : decode cX10_pack 36 = .ok (.invokevirtual 103, 3) := by decide +kernel
theorem dX10_pack_39 : decode cX10_pack 39 = .ok (.pop, 1) := by decide +kernel
theorem dX10_pack_40 : decode cX10_pack 40 = .ok (.aload_n 0, 1) := by decide +kernel
theorem dX10_pack_41 : decode cX10_pack 41 = .ok (.getfield 10, 3) := by decide +kernel
theorem dX10_pack_44 : decode cX10_pack 44 = .ok (.getfield 107, 3) := by decide +kernel
theorem dX10_pack_47 : decode cX10_pack 47 = .ok (.aload_n 2, 1) := by decide +kernel
theorem dX10_pack_48 : decode cX10_pack 48 = .ok (.aload_n 0, 1) := by decide +kernel
theorem dX10_pack_49 : decode cX10_pack 49 = .ok (.getfield 23, 3) := by decide +kernel
theorem dX10_pack_52 : decode cX10_pack 52 = .ok (.invokevirtual 111, 3) := by decide +kernel
theorem dX10_pack_55 : decode cX10_pack 55 = .ok (.aload_n 0, 1) := by decide +kernel
theorem dX10_pack_56 : decode cX10_pack 56 = .ok (.getfield 10, 3) := by decide +kernel
theorem dX10_pack_59 : decode cX10_pack 59 = .ok (.getfield 107, 3) := by decide +kernel
theorem dX10_pack_62 : decode cX10_pack 62 = .ok (.getfield 117, 3) := by decide +kernel
theorem dX10_pack_65 : decode cX10_pack 65 = .ok (.ireturn, 1) := by decide +kernel
theorem dX10_code_0 : decode cX10_code 0 = .ok (.aload_n 0, 1) := by decide +kernel
theorem dX10_code_1 : decode cX10_code 1 = .ok (.getfield 10, 3) := by decide +kernel
theorem dX10_code_4 : decode cX10_code 4 = .ok (.getfield 107, 3) := by decide +kernel
theorem dX10_code_7 : decode cX10_code 7 = .ok (.iload_n 1, 1) := by decide +kernel
theorem dX10_code_8 : decode cX10_code 8 = .ok (.invokevirtual 120, 3) := by decide +kernel
theorem dX10_code_11 : decode cX10_code 11 = .ok (.ifCond .ne 5, 3) := by decide +kernel
theorem dX10_code_14 : decode cX10_code 14 = .ok (.iconst (-1), 1) := by decide +kernel
theorem dX10_code_15 : decode cX10_code 15 = .ok (.ireturn, 1) := by decide +kernel
theorem dX10_code_16 : decode cX10_code 16 = .ok (.iload_n 2, 1) := by decide +kernel
theorem dX10_code_17 : decode cX10_code 17 = .ok (.tableswitch 66 0 2 #[27, 40, 53], 27) := by decide +kernel
theorem dX10_code_44 : decode cX10_code 44 = .ok (.aload_n 0, 1) := by decide +kernel
theorem dX10_code_45 : decode cX10_code 45 = .ok (.getfield 10, 3) := by decide +kernel
theorem dX10_code_48 : decode cX10_code 48 = .ok (.getfield 107, 3) := by decide +kernel
theorem dX10_code_51 : decode cX10_code 51 = .ok (.getfield 123, 3) := by decide +kernel
theorem dX10_code_54 : decode cX10_code 54 = .ok (.iload_n 1, 1) := by decide +kernel
theorem dX10_code_55 : decode cX10_code 55 = .ok (.iaload, 1) := by decide +kernel
theorem dX10_code_56 : decode cX10_code 56 = .ok (.ireturn, 1) := by decide +kernel
theorem dX10_code_57 : decode cX10_code 57 = .ok (.aload_n 0, 1) := by decide +kernel
theorem dX10_code_58 : decode cX10_code 58 = .ok (.getfield 10, 3) := by decide +kernel
theorem dX10_code_61 : decode cX10_code 61 = .ok (.getfield 107, 3) := by decide +kernel
theorem dX10_code_64 : decode cX10_code 64 = .ok (.getfield 126, 3) := by decide +kernel
theorem dX10_code_67 : decode cX10_code 67 = .ok (.iload_n 1, 1) := by decide +kernel
theorem dX10_code_68 : decode cX10_code 68 = .ok (.iaload, 1) := by decide +kernel
theorem dX10_code_69 : decode cX10_code 69 = .ok (.ireturn, 1) := by decide +kernel
theorem dX10_code_70 : decode cX10_code 70 = .ok (.aload_n 0, 1) := by decide +kernel
theorem dX10_code_71 : decode cX10_code 71 = .ok (.getfield 10, 3) := by decide +kernel
theorem dX10_code_74 : decode cX10_code 74 = .ok (.getfield 107, 3) := by decide +kernel
theorem dX10_code_77 : decode cX10_code 77 = .ok (.getfield 129, 3) := by decide +kernel
theorem dX10_code_80 : decode cX10_code 80 = .ok (.iload_n 1, 1) := by decide +kernel
theorem dX10_code_81 : decode cX10_code 81 = .ok (.iaload, 1) := by decide +kernel
theorem dX10_code_82 : decode cX10_code 82 = .ok (.ireturn, 1) := by decide +kernel
theorem dX10_code_83 : decode cX10_code 83 = .ok (.iconst (-1), 1) := by decide +kernel
theorem dX10_code_84 : decode cX10_code 84 = .ok (.ireturn, 1) := by decide +kernel
theorem dX10_bytes_0 : decode cX10_bytes 0 = .ok (.aload_n 0, 1) := by decide +kernel
theorem dX10_bytes_1 : decode cX10_bytes 1 = .ok (.getfield 10, 3) := by decide +kernel
theorem dX10_bytes_4 : decode cX10_bytes 4 = .ok (.getfield 107, 3) := by decide +kernel
theorem dX10_bytes_7 : decode cX10_bytes 7 = .ok (.iload_n 1, 1) := by decide +kernel
theorem dX10_bytes_8 : decode cX10_bytes 8 = .ok (.invokevirtual 132, 3) := by decide +kernel
theorem dX10_bytes_11 : decode cX10_bytes 11 = .ok (.ifCond .eq 18, 3) := by decide +kernel
theorem dX10_bytes_14 : decode cX10_bytes 14 = .ok (.aload_n 0, 1) := by decide +kernel
theorem dX10_bytes_15 : decode cX10_bytes 15 = .ok (.getfield 10, 3) := by decide +kernel
theorem dX10_bytes_18 : decode cX10_bytes 18 = .ok (.getfield 107, 3) := by decide +kernel
theorem dX10_bytes_21 : decode cX10_bytes 21 = .ok (.getfield 135, 3) := by decide +kernel
theorem dX10_bytes_24 : decode cX10_bytes 24 = .ok (.iload_n 1, 1) := by decide +kernel
theorem dX10_bytes_25 : decode cX10_bytes 25 = .ok (.iaload, 1) := by decide +kernel
theorem dX10_bytes_26 : decode cX10_bytes 26 = .ok (.goto 4, 3) := by decide +kernel
theorem dX10_bytes_29 : decode cX10_bytes 29 = .ok (.iconst (-1), 1) := by decide +kernel
theorem dX10_bytes_30 : decode cX10_bytes 30 = .ok (.ireturn, 1) := by decide +kernel
theorem dX10_run_0 : decode cX10_run 0 = .ok (.iload_n 3, 1) := by decide +kernel
theorem dX10_run_1 : decode cX10_run 1 = .ok (.ifCond .lt 10, 3) := by decide +kernel
theorem dX10_run_4 : decode cX10_run 4 = .ok (.iload_n 3, 1) := by decide +kernel
theorem dX10_run_5 : decode cX10_run 5 = .ok (.sipush 20000, 3) := by decide +kernel
theorem dX10_run_8 : decode cX10_run 8 = .ok (.if_icmp .le 5, 3) := by decide +kernel
theorem dX10_run_11 : decode cX10_run 11 = .ok (.iconst (-1), 1) := by decide +kernel
theorem dX10_run_12 : decode cX10_run 12 = .ok (.ireturn, 1) := by decide +kernel
theorem dX10_run_13 : decode cX10_run 13 = .ok (.iload_n 2, 1) := by decide +kernel
theorem dX10_run_14 : decode cX10_run 14 = .ok (.ifCond .eq 49, 3) := by decide +kernel
theorem dX10_run_17 : decode cX10_run 17 = .ok (.aload_n 0, 1) := by decide +kernel
theorem dX10_run_18 : decode cX10_run 18 = .ok (.getfield 10, 3) := by decide +kernel
theorem dX10_run_21 : decode cX10_run 21 = .ok (.getfield 107, 3) := by decide +kernel
theorem dX10_run_24 : decode cX10_run 24 = .ok (.getfield 140, 3) := by decide +kernel
theorem dX10_run_27 : decode cX10_run 27 = .ok (.ifCond .eq 34, 3) := by decide +kernel
theorem dX10_run_30 : decode cX10_run 30 = .ok (.aload_n 0, 1) := by decide +kernel
theorem dX10_run_31 : decode cX10_run 31 = .ok (.getfield 10, 3) := by decide +kernel
theorem dX10_run_34 : decode cX10_run 34 = .ok (.getfield 144, 3) := by decide +kernel
theorem dX10_run_37 : decode cX10_run 37 = .ok (.aload_n 0, 1) := by decide +kernel
theorem dX10_run_38 : decode cX10_run 38 = .ok (.getfield 10, 3) := by decide +kernel
theorem dX10_run_41 : decode cX10_run 41 = .ok (.getfield 107, 3) := by decide +kernel
theorem dX10_run_44 : decode cX10_run 44 = .ok (.getfield 148, 3) := by decide +kernel
theorem dX10_run_47 : decode cX10_run 47 = .ok (.aload_n 0, 1) := by decide +kernel
theorem dX10_run_48 : decode cX10_run 48 = .ok (.getfield 10, 3) := by decide +kernel
theorem dX10_run_51 : decode cX10_run 51 = .ok (.getfield 107, 3) := by decide +kernel
theorem dX10_run_54 : decode cX10_run 54 = .ok (.iload_n 3, 1) := by decide +kernel
theorem dX10_run_55 : decode cX10_run 55 = .ok (.invokevirtual 152, 3) := by decide +kernel
theorem dX10_run_58 : decode cX10_run 58 = .ok (.goto 4, 3) := by decide +kernel
theorem dX10_run_61 : decode cX10_run 61 = .ok (.iconst (-1), 1) := by decide +kernel
theorem dX10_run_62 : decode cX10_run 62 = .ok (.ireturn, 1) := by decide +kernel
theorem dX10_run_63 : decode cX10_run 63 = .ok (.aload_n 0, 1) := by decide +kernel
theorem dX10_run_64 : decode cX10_run 64 = .ok (.getfield 10, 3) := by decide +kernel
theorem dX10_run_67 : decode cX10_run 67 = .ok (.iload_n 1, 1) := by decide +kernel
theorem dX10_run_68 : decode cX10_run 68 = .ok (.invokevirtual 47, 3) := by decide +kernel
theorem dX10_run_71 : decode cX10_run 71 = .ok (.ifCond .eq 27, 3) := by decide +kernel
theorem dX10_run_74 : decode cX10_run 74 = .ok (.aload_n 0, 1) := by decide +kernel
theorem dX10_run_75 : decode cX10_run 75 = .ok (.getfield 10, 3) := by decide +kernel
theorem dX10_run_78 : decode cX10_run 78 = .ok (.getfield 144, 3) := by decide +kernel
theorem dX10_run_81 : decode cX10_run 81 = .ok (.aload_n 0, 1) := by decide +kernel
theorem dX10_run_82 : decode cX10_run 82 = .ok (.getfield 10, 3) := by decide +kernel
theorem dX10_run_85 : decode cX10_run 85 = .ok (.getfield 38, 3) := by decide +kernel
theorem dX10_run_88 : decode cX10_run 88 = .ok (.iload_n 1, 1) := by decide +kernel
theorem dX10_run_89 : decode cX10_run 89 = .ok (.aaload, 1) := by decide +kernel
theorem dX10_run_90 : decode cX10_run 90 = .ok (.aconst_null, 1) := by decide +kernel
theorem dX10_run_91 : decode cX10_run 91 = .ok (.iload_n 3, 1) := by decide +kernel
theorem dX10_run_92 : decode cX10_run 92 = .ok (.invokevirtual 152, 3) := by decide +kernel
theorem dX10_run_95 : decode cX10_run 95 = .ok (.goto 4, 3) := by decide +kernel
theorem dX10_run_98 : decode cX10_run 98 = .ok (.iconst (-1), 1) := by decide +kernel
theorem dX10_run_99 : decode cX10_run 99 = .ok (.ireturn, 1) := by decide +kernel
theorem dX10_ran_0 : decode cX10_ran 0 = .ok (.aload_n 0, 1) := by decide +kernel
theorem dX10_ran_1 : decode cX10_ran 1 = .ok (.getfield 10, 3) := by decide +kernel
theorem dX10_ran_4 : decode cX10_ran 4 = .ok (.getfield 144, 3) := by decide +kernel
theorem dX10_ran_7 : decode cX10_ran 7 = .ok (.getfield 156, 3) := by decide +kernel
theorem dX10_ran_10 : decode cX10_ran 10 = .ok (.ifCond .ne 5, 3) := by decide +kernel
theorem dX10_ran_13 : decode cX10_ran 13 = .ok (.iconst (-1), 1) := by decide +kernel
theorem dX10_ran_14 : decode cX10_ran 14 = .ok (.ireturn, 1) := by decide +kernel
theorem dX10_ran_15 : decode cX10_ran 15 = .ok (.iload_n 1, 1) := by decide +kernel
theorem dX10_ran_16 : decode cX10_ran 16 = .ok (.tableswitch 91 0 4 #[36, 47, 58, 69, 80], 36) := by decide +kernel
theorem dX10_ran_52 : decode cX10_ran 52 = .ok (.aload_n 0, 1) := by decide +kernel
theorem dX10_ran_53 : decode cX10_ran 53 = .ok (.getfield 10, 3) := by decide +kernel
theorem dX10_ran_56 : decode cX10_ran 56 = .ok (.getfield 144, 3) := by decide +kernel
theorem dX10_ran_59 : decode cX10_ran 59 = .ok (.getfield 157, 3) := by decide +kernel
theorem dX10_ran_62 : decode cX10_ran 62 = .ok (.ireturn, 1) := by decide +kernel
theorem dX10_ran_63 : decode cX10_ran 63 = .ok (.aload_n 0, 1) := by decide +kernel
theorem dX10_ran_64 : decode cX10_ran 64 = .ok (.getfield 10, 3) := by decide +kernel
theorem dX10_ran_67 : decode cX10_ran 67 = .ok (.getfield 144, 3) := by decide +kernel
theorem dX10_ran_70 : decode cX10_ran 70 = .ok (.getfield 160, 3) := by decide +kernel
theorem dX10_ran_73 : decode cX10_ran 73 = .ok (.ireturn, 1) := by decide +kernel
theorem dX10_ran_74 : decode cX10_ran 74 = .ok (.aload_n 0, 1) := by decide +kernel
theorem dX10_ran_75 : decode cX10_ran 75 = .ok (.getfield 10, 3) := by decide +kernel
theorem dX10_ran_78 : decode cX10_ran 78 = .ok (.getfield 144, 3) := by decide +kernel
theorem dX10_ran_81 : decode cX10_ran 81 = .ok (.getfield 163, 3) := by decide +kernel
theorem dX10_ran_84 : decode cX10_ran 84 = .ok (.ireturn, 1) := by decide +kernel
theorem dX10_ran_85 : decode cX10_ran 85 = .ok (.aload_n 0, 1) := by decide +kernel
theorem dX10_ran_86 : decode cX10_ran 86 = .ok (.getfield 10, 3) := by decide +kernel
theorem dX10_ran_89 : decode cX10_ran 89 = .ok (.getfield 144, 3) := by decide +kernel
theorem dX10_ran_92 : decode cX10_ran 92 = .ok (.getfield 166, 3) := by decide +kernel
theorem dX10_ran_95 : decode cX10_ran 95 = .ok (.ireturn, 1) := by decide +kernel
theorem dX10_ran_96 : decode cX10_ran 96 = .ok (.aload_n 0, 1) := by decide +kernel
theorem dX10_ran_97 : decode cX10_ran 97 = .ok (.getfield 10, 3) := by decide +kernel
theorem dX10_ran_100 : decode cX10_ran 100 = .ok (.getfield 144, 3) := by decide +kernel
theorem dX10_ran_103 : decode cX10_ran 103 = .ok (.getfield 169, 3) := by decide +kernel
theorem dX10_ran_106 : decode cX10_ran 106 = .ok (.ireturn, 1) := by decide +kernel
theorem dX10_ran_107 : decode cX10_ran 107 = .ok (.iconst (-1), 1) := by decide +kernel
theorem dX10_ran_108 : decode cX10_ran 108 = .ok (.ireturn, 1) := by decide +kernel
theorem dX10_had_0 : decode cX10_had 0 = .ok (.iload_n 1, 1) := by decide +kernel
theorem dX10_had_1 : decode cX10_had 1 = .ok (.tableswitch 94 0 2 #[27, 52, 77], 27) := by decide +kernel
theorem dX10_had_28 : decode cX10_had 28 = .ok (.aload_n 0, 1) := by decide +kernel
theorem dX10_had_29 : decode cX10_had 29 = .ok (.getfield 10, 3) := by decide +kernel
theorem dX10_had_32 : decode cX10_had 32 = .ok (.getfield 144, 3) := by decide +kernel
theorem dX10_had_35 : decode cX10_had 35 = .ok (.getfield 172, 3) := by decide +kernel
theorem dX10_had_38 : decode cX10_had 38 = .ok (.aload_n 0, 1) := by decide +kernel
theorem dX10_had_39 : decode cX10_had 39 = .ok (.getfield 10, 3) := by decide +kernel
theorem dX10_had_42 : decode cX10_had 42 = .ok (.getfield 144, 3) := by decide +kernel
theorem dX10_had_45 : decode cX10_had 45 = .ok (.getfield 163, 3) := by decide +kernel
theorem dX10_had_48 : decode cX10_had 48 = .ok (.iload_n 2, 1) := by decide +kernel
theorem dX10_had_49 : decode cX10_had 49 = .ok (.invokestatic 175, 3) := by decide +kernel
theorem dX10_had_52 : decode cX10_had 52 = .ok (.ireturn, 1) := by decide +kernel
theorem dX10_had_53 : decode cX10_had 53 = .ok (.aload_n 0, 1) := by decide +kernel
theorem dX10_had_54 : decode cX10_had 54 = .ok (.getfield 10, 3) := by decide +kernel
theorem dX10_had_57 : decode cX10_had 57 = .ok (.getfield 144, 3) := by decide +kernel
theorem dX10_had_60 : decode cX10_had 60 = .ok (.getfield 179, 3) := by decide +kernel
theorem dX10_had_63 : decode cX10_had 63 = .ok (.aload_n 0, 1) := by decide +kernel
theorem dX10_had_64 : decode cX10_had 64 = .ok (.getfield 10, 3) := by decide +kernel
theorem dX10_had_67 : decode cX10_had 67 = .ok (.getfield 144, 3) := by decide +kernel
theorem dX10_had_70 : decode cX10_had 70 = .ok (.getfield 166, 3) := by decide +kernel
theorem dX10_had_73 : decode cX10_had 73 = .ok (.iload_n 2, 1) := by decide +kernel
theorem dX10_had_74 : decode cX10_had 74 = .ok (.invokestatic 175, 3) := by decide +kernel
theorem dX10_had_77 : decode cX10_had 77 = .ok (.ireturn, 1) := by decide +kernel
theorem dX10_had_78 : decode cX10_had 78 = .ok (.aload_n 0, 1) := by decide +kernel
theorem dX10_had_79 : decode cX10_had 79 = .ok (.getfield 10, 3) := by decide +kernel
theorem dX10_had_82 : decode cX10_had 82 = .ok (.getfield 144, 3) := by decide +kernel
theorem dX10_had_85 : decode cX10_had 85 = .ok (.getfield 182, 3) := by decide +kernel
theorem dX10_had_88 : decode cX10_had 88 = .ok (.bipush 8, 2) := by decide +kernel
theorem dX10_had_90 : decode cX10_had 90 = .ok (.iload_n 2, 1) := by decide +kernel
theorem dX10_had_91 : decode cX10_had 91 = .ok (.invokestatic 175, 3) := by decide +kernel
theorem dX10_had_94 : decode cX10_had 94 = .ok (.ireturn, 1) := by decide +kernel
theorem dX10_had_95 : decode cX10_had 95 = .ok (.iconst 0, 1) := by decide +kernel
theorem dX10_had_96 : decode cX10_had 96 = .ok (.ireturn, 1) := by decide +kernel
theorem dX10_cost_0 : decode cX10_cost 0 = .ok (.iconst 0, 1) := by decide +kernel
theorem dX10_cost_1 : decode cX10_cost 1 = .ok (.istore_n 2, 1) := by decide +kernel
theorem dX10_cost_2 : decode cX10_cost 2 = .ok (.iconst 0, 1) := by decide +kernel
theorem dX10_cost_3 : decode cX10_cost 3 = .ok (.istore_n 3, 1) := by decide +kernel
theorem dX10_cost_4 : decode cX10_cost 4 = .ok (.iload_n 3, 1) := by decide +kernel
theorem dX10_cost_5 : decode cX10_cost 5 = .ok (.aload_n 0, 1) := by decide +kernel
theorem dX10_cost_6 : decode cX10_cost 6 = .ok (.getfield 10, 3) := by decide +kernel
theorem dX10_cost_9 : decode cX10_cost 9 = .ok (.getfield 34, 3) := by decide +kernel
theorem dX10_cost_12 : decode cX10_cost 12 = .ok (.if_icmp .ge 36, 3) := by decide +kernel
theorem dX10_cost_15 : decode cX10_cost 15 = .ok (.iload_n 2, 1) := by decide +kernel
theorem dX10_cost_16 : decode cX10_cost 16 = .ok (.aload_n 0, 1) := by decide +kernel
theorem dX10_cost_17 : decode cX10_cost 17 = .ok (.getfield 23, 3) := by decide +kernel
theorem dX10_cost_20 : decode cX10_cost 20 = .ok (.aload_n 0, 1) := by decide +kernel
theorem dX10_cost_21 : decode cX10_cost 21 = .ok (.getfield 10, 3) := by decide +kernel
theorem dX10_cost_24 : decode cX10_cost 24 = .ok (.getfield 38, 3) := by decide +kernel
theorem dX10_cost_27 : decode cX10_cost 27 = .ok (.iload_n 3, 1) := by decide +kernel
theorem dX10_cost_28 : decode cX10_cost 28 = .ok (.aaload, 1) := by decide +kernel
theorem dX10_cost_29 : decode cX10_cost 29 = .ok (.aload_n 0, 1) := by decide +kernel
theorem dX10_cost_30 : decode cX10_cost 30 = .ok (.getfield 10, 3) := by decide +kernel
theorem dX10_cost_33 : decode cX10_cost 33 = .ok (.getfield 86, 3) := by decide +kernel
theorem dX10_cost_36 : decode cX10_cost 36 = .ok (.iload_n 1, 1) := by decide +kernel
theorem dX10_cost_37 : decode cX10_cost 37 = .ok (.invokevirtual 103, 3) := by decide +kernel
theorem dX10_cost_40 : decode cX10_cost 40 = .ok (.iadd, 1) := by decide +kernel
theorem dX10_cost_41 : decode cX10_cost 41 = .ok (.istore_n 2, 1) := by decide +kernel
theorem dX10_cost_42 : decode cX10_cost 42 = .ok (.iinc 3 1, 3) := by decide +kernel
theorem dX10_cost_45 : decode cX10_cost 45 = .ok (.goto (-41), 3) := by decide +kernel
theorem dX10_cost_48 : decode cX10_cost 48 = .ok (.iload_n 2, 1) := by decide +kernel
theorem dX10_cost_49 : decode cX10_cost 49 = .ok (.ireturn, 1) := by decide +kernel
theorem dX10_choose_0 : decode cX10_choose 0 = .ok (.iload_n 1, 1) := by decide +kernel
theorem dX10_choose_1 : decode cX10_choose 1 = .ok (.iconst 1, 1) := by decide +kernel
theorem dX10_choose_2 : decode cX10_choose 2 = .ok (.if_icmp .lt 8, 3) := by decide +kernel
theorem dX10_choose_5 : decode cX10_choose 5 = .ok (.iload_n 1, 1) := by decide +kernel
theorem dX10_choose_6 : decode cX10_choose 6 = .ok (.iconst 2, 1) := by decide +kernel
theorem dX10_choose_7 : decode cX10_choose 7 = .ok (.if_icmp .le 5, 3) := by decide +kernel
theorem dX10_choose_10 : decode cX10_choose 10 = .ok (.iconst (-1), 1) := by decide +kernel
theorem dX10_choose_11 : decode cX10_choose 11 = .ok (.ireturn, 1) := by decide +kernel
theorem dX10_choose_12 : decode cX10_choose 12 = .ok (.aload_n 0, 1) := by decide +kernel
theorem dX10_choose_13 : decode cX10_choose 13 = .ok (.getfield 10, 3) := by decide +kernel
theorem dX10_choose_16 : decode cX10_choose 16 = .ok (.iconst 1, 1) := by decide +kernel
theorem dX10_choose_17 : decode cX10_choose 17 = .ok (.putfield 185, 3) := by decide +kernel
theorem dX10_choose_20 : decode cX10_choose 20 = .ok (.aload_n 0, 1) := by decide +kernel
theorem dX10_choose_21 : decode cX10_choose 21 = .ok (.getfield 30, 3) := by decide +kernel
theorem dX10_choose_24 : decode cX10_choose 24 = .ok (.aload_n 0, 1) := by decide +kernel
theorem dX10_choose_25 : decode cX10_choose 25 = .ok (.getfield 10, 3) := by decide +kernel
theorem dX10_choose_28 : decode cX10_choose 28 = .ok (.iload_n 1, 1) := by decide +kernel
theorem dX10_choose_29 : decode cX10_choose 29 = .ok (.iload_n 2, 1) := by decide +kernel
theorem dX10_choose_30 : decode cX10_choose 30 = .ok (.invokevirtual 188, 3) := by decide +kernel
theorem dX10_choose_33 : decode cX10_choose 33 = .ok (.ireturn, 1) := by decide +kernel
theorem dX10_chosen_0 : decode cX10_chosen 0 = .ok (.aload_n 0, 1) := by decide +kernel
theorem dX10_chosen_1 : decode cX10_chosen 1 = .ok (.getfield 10, 3) := by decide +kernel
theorem dX10_chosen_4 : decode cX10_chosen 4 = .ok (.getfield 192, 3) := by decide +kernel
theorem dX10_chosen_7 : decode cX10_chosen 7 = .ok (.iload_n 1, 1) := by decide +kernel
theorem dX10_chosen_8 : decode cX10_chosen 8 = .ok (.iload_n 2, 1) := by decide +kernel
theorem dX10_chosen_9 : decode cX10_chosen 9 = .ok (.invokevirtual 99, 3) := by decide +kernel
theorem dX10_chosen_12 : decode cX10_chosen 12 = .ok (.ireturn, 1) := by decide +kernel
theorem dX10_take_0 : decode cX10_take 0 = .ok (.aload_n 0, 1) := by decide +kernel
theorem dX10_take_1 : decode cX10_take 1 = .ok (.getfield 10, 3) := by decide +kernel
theorem dX10_take_4 : decode cX10_take 4 = .ok (.getfield 185, 3) := by decide +kernel
theorem dX10_take_7 : decode cX10_take 7 = .ok (.ifCond .ne 5, 3) := by decide +kernel
theorem dX10_take_10 : decode cX10_take 10 = .ok (.iconst (-1), 1) := by decide +kernel
theorem dX10_take_11 : decode cX10_take 11 = .ok (.ireturn, 1) := by decide +kernel
theorem dX10_take_12 : decode cX10_take 12 = .ok (.aload_n 0, 1) := by decide +kernel
theorem dX10_take_13 : decode cX10_take 13 = .ok (.getfield 10, 3) := by decide +kernel
theorem dX10_take_16 : decode cX10_take 16 = .ok (.getfield 86, 3) := by decide +kernel
theorem dX10_take_19 : decode cX10_take 19 = .ok (.aload_n 0, 1) := by decide +kernel
theorem dX10_take_20 : decode cX10_take 20 = .ok (.getfield 10, 3) := by decide +kernel
theorem dX10_take_23 : decode cX10_take 23 = .ok (.getfield 192, 3) := by decide +kernel
theorem dX10_take_26 : decode cX10_take 26 = .ok (.invokevirtual 195, 3) := by decide +kernel
theorem dX10_take_29 : decode cX10_take 29 = .ok (.aload_n 0, 1) := by decide +kernel
theorem dX10_take_30 : decode cX10_take 30 = .ok (.getfield 10, 3) := by decide +kernel
theorem dX10_take_33 : decode cX10_take 33 = .ok (.getfield 86, 3) := by decide +kernel
theorem dX10_take_36 : decode cX10_take 36 = .ok (.getfield 98, 3) := by decide +kernel
theorem dX10_take_39 : decode cX10_take 39 = .ok (.ireturn, 1) := by decide +kernel
theorem dX10_feed_0 : decode cX10_feed 0 = .ok (.aload_n 0, 1) := by decide +kernel
theorem dX10_feed_1 : decode cX10_feed 1 = .ok (.getfield 10, 3) := by decide +kernel
theorem dX10_feed_4 : decode cX10_feed 4 = .ok (.getfield 199, 3) := by decide +kernel
theorem dX10_feed_7 : decode cX10_feed 7 = .ok (.iload_n 1, 1) := by decide +kernel
theorem dX10_feed_8 : decode cX10_feed 8 = .ok (.iload_n 2, 1) := by decide +kernel
theorem dX10_feed_9 : decode cX10_feed 9 = .ok (.invokevirtual 203, 3) := by decide +kernel
theorem dX10_feed_12 : decode cX10_feed 12 = .ok (.ifCond .eq 16, 3) := by decide +kernel
theorem dX10_feed_15 : decode cX10_feed 15 = .ok (.aload_n 0, 1) := by decide +kernel
theorem dX10_feed_16 : decode cX10_feed 16 = .ok (.getfield 10, 3) := by decide +kernel
theorem dX10_feed_19 : decode cX10_feed 19 = .ok (.getfield 199, 3) := by decide +kernel
theorem dX10_feed_22 : decode cX10_feed 22 = .ok (.getfield 206, 3) := by decide +kernel
theorem dX10_feed_25 : decode cX10_feed 25 = .ok (.goto 4, 3) := by decide +kernel
theorem dX10_feed_28 : decode cX10_feed 28 = .ok (.iconst (-1), 1) := by decide +kernel
theorem dX10_feed_29 : decode cX10_feed 29 = .ok (.ireturn, 1) := by decide +kernel
theorem dX10_read_0 : decode cX10_read 0 = .ok (.aload_n 0, 1) := by decide +kernel
theorem dX10_read_1 : decode cX10_read 1 = .ok (.getfield 10, 3) := by decide +kernel
theorem dX10_read_4 : decode cX10_read 4 = .ok (.getfield 34, 3) := by decide +kernel
theorem dX10_read_7 : decode cX10_read 7 = .ok (.iconst 3, 1) := by decide +kernel
theorem dX10_read_8 : decode cX10_read 8 = .ok (.if_icmp .lt 5, 3) := by decide +kernel
theorem dX10_read_11 : decode cX10_read 11 = .ok (.iconst (-1), 1) := by decide +kernel
theorem dX10_read_12 : decode cX10_read 12 = .ok (.ireturn, 1) := by decide +kernel
theorem dX10_read_13 : decode cX10_read 13 = .ok (.aload_n 0, 1) := by decide +kernel
theorem dX10_read_14 : decode cX10_read 14 = .ok (.getfield 10, 3) := by decide +kernel
theorem dX10_read_17 : decode cX10_read 17 = .ok (.getfield 199, 3) := by decide +kernel
theorem dX10_read_20 : decode cX10_read 20 = .ok (.aload_n 0, 1) := by decide +kernel
theorem dX10_read_21 : decode cX10_read 21 = .ok (.getfield 10, 3) := by decide +kernel
theorem dX10_read_24 : decode cX10_read 24 = .ok (.getfield 38, 3) := by decide +kernel
theorem dX10_read_27 : decode cX10_read 27 = .ok (.aload_n 0, 1) := by decide +kernel
theorem dX10_read_28 : decode cX10_read 28 = .ok (.getfield 10, 3) := by decide +kernel
theorem dX10_read_31 : decode cX10_read 31 = .ok (.getfield 34, 3) := by decide +kernel
theorem dX10_read_34 : decode cX10_read 34 = .ok (.aaload, 1) := by decide +kernel
theorem dX10_read_35 : decode cX10_read 35 = .ok (.aload_n 0, 1) := by decide +kernel
theorem dX10_read_36 : decode cX10_read 36 = .ok (.getfield 10, 3) := by decide +kernel
theorem dX10_read_39 : decode cX10_read 39 = .ok (.getfield 86, 3) := by decide +kernel
theorem dX10_read_42 : decode cX10_read 42 = .ok (.invokevirtual 207, 3) := by decide +kernel
theorem dX10_read_45 : decode cX10_read 45 = .ok (.ifCond .ne 5, 3) := by decide +kernel
theorem dX10_read_48 : decode cX10_read 48 = .ok (.iconst (-1), 1) := by decide +kernel
theorem dX10_read_49 : decode cX10_read 49 = .ok (.ireturn, 1) := by decide +kernel
theorem dX10_read_50 : decode cX10_read 50 = .ok (.aload_n 0, 1) := by decide +kernel
theorem dX10_read_51 : decode cX10_read 51 = .ok (.getfield 10, 3) := by decide +kernel
theorem dX10_read_54 : decode cX10_read 54 = .ok (.getfield 199, 3) := by decide +kernel
theorem dX10_read_57 : decode cX10_read 57 = .ok (.iconst 0, 1) := by decide +kernel
theorem dX10_read_58 : decode cX10_read 58 = .ok (.putfield 206, 3) := by decide +kernel
theorem dX10_read_61 : decode cX10_read 61 = .ok (.aload_n 0, 1) := by decide +kernel
theorem dX10_read_62 : decode cX10_read 62 = .ok (.getfield 10, 3) := by decide +kernel
theorem dX10_read_65 : decode cX10_read 65 = .ok (.dup, 1) := by decide +kernel
theorem dX10_read_66 : decode cX10_read 66 = .ok (.getfield 34, 3) := by decide +kernel
theorem dX10_read_69 : decode cX10_read 69 = .ok (.iconst 1, 1) := by decide +kernel
theorem dX10_read_70 : decode cX10_read 70 = .ok (.iadd, 1) := by decide +kernel
theorem dX10_read_71 : decode cX10_read 71 = .ok (.putfield 34, 3) := by decide +kernel
theorem dX10_read_74 : decode cX10_read 74 = .ok (.aload_n 0, 1) := by decide +kernel
theorem dX10_read_75 : decode cX10_read 75 = .ok (.getfield 10, 3) := by decide +kernel
theorem dX10_read_78 : decode cX10_read 78 = .ok (.getfield 34, 3) := by decide +kernel
theorem dX10_read_81 : decode cX10_read 81 = .ok (.iconst 1, 1) := by decide +kernel
theorem dX10_read_82 : decode cX10_read 82 = .ok (.isub, 1) := by decide +kernel
theorem dX10_read_83 : decode cX10_read 83 = .ok (.ireturn, 1) := by decide +kernel
theorem dX10_count_0 : decode cX10_count 0 = .ok (.iload_n 1, 1) := by decide +kernel
theorem dX10_count_1 : decode cX10_count 1 = .ok (.tableswitch 136 0 5 #[39, 47, 58, 86, 114, 125], 39) := by decide +kernel
theorem dX10_count_40 : decode cX10_count 40 = .ok (.aload_n 0, 1) := by decide +kernel
theorem dX10_count_41 : decode cX10_count 41 = .ok (.getfield 10, 3) := by decide +kernel
theorem dX10_count_44 : decode cX10_count 44 = .ok (.getfield 34, 3) := by decide +kernel
theorem dX10_count_47 : decode cX10_count 47 = .ok (.ireturn, 1) := by decide +kernel
theorem dX10_count_48 : decode cX10_count 48 = .ok (.aload_n 0, 1) := by decide +kernel
theorem dX10_count_49 : decode cX10_count 49 = .ok (.getfield 10, 3) := by decide +kernel
theorem dX10_count_52 : decode cX10_count 52 = .ok (.getfield 86, 3) := by decide +kernel
theorem dX10_count_55 : decode cX10_count 55 = .ok (.getfield 98, 3) := by decide +kernel
theorem dX10_count_58 : decode cX10_count 58 = .ok (.ireturn, 1) := by decide +kernel
theorem dX10_count_59 : decode cX10_count 59 = .ok (.aload_n 0, 1) := by decide +kernel
theorem dX10_count_60 : decode cX10_count 60 = .ok (.getfield 10, 3) := by decide +kernel
theorem dX10_count_63 : decode cX10_count 63 = .ok (.getfield 107, 3) := by decide +kernel
theorem dX10_count_66 : decode cX10_count 66 = .ok (.getfield 140, 3) := by decide +kernel
theorem dX10_count_69 : decode cX10_count 69 = .ok (.ifCond .eq 16, 3) := by decide +kernel
theorem dX10_count_72 : decode cX10_count 72 = .ok (.aload_n 0, 1) := by decide +kernel
theorem dX10_count_73 : decode cX10_count 73 = .ok (.getfield 10, 3) := by decide +kernel
theorem dX10_count_76 : decode cX10_count 76 = .ok (.getfield 107, 3) := by decide +kernel
theorem dX10_count_79 : decode cX10_count 79 = .ok (.getfield 117, 3) := by decide +kernel
theorem dX10_count_82 : decode cX10_count 82 = .ok (.goto 4, 3) := by decide +kernel
theorem dX10_count_85 : decode cX10_count 85 = .ok (.iconst (-1), 1) := by decide +kernel
theorem dX10_count_86 : decode cX10_count 86 = .ok (.ireturn, 1) := by decide +kernel
theorem dX10_count_87 : decode cX10_count 87 = .ok (.aload_n 0, 1) := by decide +kernel
theorem dX10_count_88 : decode cX10_count 88 = .ok (.getfield 10, 3) := by decide +kernel
theorem dX10_count_91 : decode cX10_count 91 = .ok (.getfield 107, 3) := by decide +kernel
theorem dX10_count_94 : decode cX10_count 94 = .ok (.getfield 140, 3) := by decide +kernel
theorem dX10_count_97 : decode cX10_count 97 = .ok (.ifCond .eq 16, 3) := by decide +kernel
theorem dX10_count_100 : decode cX10_count 100 = .ok (.aload_n 0, 1) := by decide +kernel
theorem dX10_count_101 : decode cX10_count 101 = .ok (.getfield 10, 3) := by decide +kernel
theorem dX10_count_104 : decode cX10_count 104 = .ok (.getfield 107, 3) := by decide +kernel
theorem dX10_count_107 : decode cX10_count 107 = .ok (.getfield 211, 3) := by decide +kernel
theorem dX10_count_110 : decode cX10_count 110 = .ok (.goto 4, 3) := by decide +kernel
theorem dX10_count_113 : decode cX10_count 113 = .ok (.iconst (-1), 1) := by decide +kernel
theorem dX10_count_114 : decode cX10_count 114 = .ok (.ireturn, 1) := by decide +kernel
theorem dX10_count_115 : decode cX10_count 115 = .ok (.aload_n 0, 1) := by decide +kernel
theorem dX10_count_116 : decode cX10_count 116 = .ok (.getfield 10, 3) := by decide +kernel
theorem dX10_count_119 : decode cX10_count 119 = .ok (.getfield 192, 3) := by decide +kernel
theorem dX10_count_122 : decode cX10_count 122 = .ok (.getfield 98, 3) := by decide +kernel
theorem dX10_count_125 : decode cX10_count 125 = .ok (.ireturn, 1) := by decide +kernel
theorem dX10_count_126 : decode cX10_count 126 = .ok (.aload_n 0, 1) := by decide +kernel
theorem dX10_count_127 : decode cX10_count 127 = .ok (.getfield 10, 3) := by decide +kernel
theorem dX10_count_130 : decode cX10_count 130 = .ok (.getfield 199, 3) := by decide +kernel
theorem dX10_count_133 : decode cX10_count 133 = .ok (.getfield 206, 3) := by decide +kernel
theorem dX10_count_136 : decode cX10_count 136 = .ok (.ireturn, 1) := by decide +kernel
theorem dX10_count_137 : decode cX10_count 137 = .ok (.iload_n 1, 1) := by decide +kernel
theorem dX10_count_138 : decode cX10_count 138 = .ok (.bipush 10, 2) := by decide +kernel
theorem dX10_count_140 : decode cX10_count 140 = .ok (.if_icmp .lt 35, 3) := by decide +kernel
theorem dX10_count_143 : decode cX10_count 143 = .ok (.aload_n 0, 1) := by decide +kernel
theorem dX10_count_144 : decode cX10_count 144 = .ok (.getfield 10, 3) := by decide +kernel
theorem dX10_count_147 : decode cX10_count 147 = .ok (.iload_n 1, 1) := by decide +kernel
theorem dX10_count_148 : decode cX10_count 148 = .ok (.bipush 10, 2) := by decide +kernel
theorem dX10_count_150 : decode cX10_count 150 = .ok (.isub, 1) := by decide +kernel
theorem dX10_count_151 : decode cX10_count 151 = .ok (.invokevirtual 47, 3) := by decide +kernel
theorem dX10_count_154 : decode cX10_count 154 = .ok (.ifCond .eq 21, 3) := by decide +kernel
theorem dX10_count_157 : decode cX10_count 157 = .ok (.aload_n 0, 1) := by decide +kernel
theorem dX10_count_158 : decode cX10_count 158 = .ok (.getfield 10, 3) := by decide +kernel
theorem dX10_count_161 : decode cX10_count 161 = .ok (.getfield 38, 3) := by decide +kernel
theorem dX10_count_164 : decode cX10_count 164 = .ok (.iload_n 1, 1) := by decide +kernel
theorem dX10_count_165 : decode cX10_count 165 = .ok (.bipush 10, 2) := by decide +kernel
theorem dX10_count_167 : decode cX10_count 167 = .ok (.isub, 1) := by decide +kernel
theorem dX10_count_168 : decode cX10_count 168 = .ok (.aaload, 1) := by decide +kernel
theorem dX10_count_169 : decode cX10_count 169 = .ok (.getfield 58, 3) := by decide +kernel
theorem dX10_count_172 : decode cX10_count 172 = .ok (.goto 4, 3) := by decide +kernel
theorem dX10_count_175 : decode cX10_count 175 = .ok (.iconst (-1), 1) := by decide +kernel
theorem dX10_count_176 : decode cX10_count 176 = .ok (.ireturn, 1) := by decide +kernel
theorem dX10_image_0 : decode cX10_image 0 = .ok (.iload_n 1, 1) := by decide +kernel
theorem dX10_image_1 : decode cX10_image 1 = .ok (.ifCond .lt 8, 3) := by decide +kernel
theorem dX10_image_4 : decode cX10_image 4 = .ok (.iload_n 1, 1) := by decide +kernel
theorem dX10_image_5 : decode cX10_image 5 = .ok (.iconst 3, 1) := by decide +kernel
theorem dX10_image_6 : decode cX10_image 6 = .ok (.if_icmp .lt 5, 3) := by decide +kernel
theorem dX10_image_9 : decode cX10_image 9 = .ok (.iconst 0, 1) := by decide +kernel
theorem dX10_image_10 : decode cX10_image 10 = .ok (.ireturn, 1) := by decide +kernel
theorem dX10_image_11 : decode cX10_image 11 = .ok (.aload_n 0, 1) := by decide +kernel
theorem dX10_image_12 : decode cX10_image 12 = .ok (.getfield 16, 3) := by decide +kernel
theorem dX10_image_15 : decode cX10_image 15 = .ok (.iload_n 1, 1) := by decide +kernel
theorem dX10_image_16 : decode cX10_image 16 = .ok (.aaload, 1) := by decide +kernel
theorem dX10_image_17 : decode cX10_image 17 = .ok (.ifnonnull 16, 3) := by decide +kernel
theorem dX10_image_20 : decode cX10_image 20 = .ok (.aload_n 0, 1) := by decide +kernel
theorem dX10_image_21 : decode cX10_image 21 = .ok (.getfield 16, 3) := by decide +kernel
theorem dX10_image_24 : decode cX10_image 24 = .ok (.iload_n 1, 1) := by decide +kernel
theorem dX10_image_25 : decode cX10_image 25 = .ok (.new 7, 3) := by decide +kernel
theorem dX10_image_28 : decode cX10_image 28 = .ok (.dup, 1) := by decide +kernel
theorem dX10_image_29 : decode cX10_image 29 = .ok (.invokespecial 9, 3) := by decide +kernel
theorem dX10_image_32 : decode cX10_image 32 = .ok (.aastore, 1) := by decide +kernel
theorem dX10_image_33 : decode cX10_image 33 = .ok (.aload_n 0, 1) := by decide +kernel
theorem dX10_image_34 : decode cX10_image 34 = .ok (.getfield 16, 3) := by decide +kernel
theorem dX10_image_37 : decode cX10_image 37 = .ok (.iload_n 1, 1) := by decide +kernel
theorem dX10_image_38 : decode cX10_image 38 = .ok (.aaload, 1) := by decide +kernel
theorem dX10_image_39 : decode cX10_image 39 = .ok (.aload_n 0, 1) := by decide +kernel
theorem dX10_image_40 : decode cX10_image 40 = .ok (.getfield 10, 3) := by decide +kernel
theorem dX10_image_43 : decode cX10_image 43 = .ok (.invokevirtual 214, 3) := by decide +kernel
theorem dX10_image_46 : decode cX10_image 46 = .ok (.iconst 1, 1) := by decide +kernel
theorem dX10_image_47 : decode cX10_image 47 = .ok (.ireturn, 1) := by decide +kernel
theorem dX10_again_0 : decode cX10_again 0 = .ok (.iload_n 1, 1) := by decide +kernel
theorem dX10_again_1 : decode cX10_again 1 = .ok (.ifCond .lt 17, 3) := by decide +kernel
theorem dX10_again_4 : decode cX10_again 4 = .ok (.iload_n 1, 1) := by decide +kernel
theorem dX10_again_5 : decode cX10_again 5 = .ok (.iconst 3, 1) := by decide +kernel
theorem dX10_again_6 : decode cX10_again 6 = .ok (.if_icmp .ge 12, 3) := by decide +kernel
theorem dX10_again_9 : decode cX10_again 9 = .ok (.aload_n 0, 1) := by decide +kernel
theorem dX10_again_10 : decode cX10_again 10 = .ok (.getfield 16, 3) := by decide +kernel
theorem dX10_again_13 : decode cX10_again 13 = .ok (.iload_n 1, 1) := by decide +kernel
theorem dX10_again_14 : decode cX10_again 14 = .ok (.aaload, 1) := by decide +kernel
theorem dX10_again_15 : decode cX10_again 15 = .ok (.ifnonnull 5, 3) := by decide +kernel
theorem dX10_again_18 : decode cX10_again 18 = .ok (.iconst 0, 1) := by decide +kernel
theorem dX10_again_19 : decode cX10_again 19 = .ok (.ireturn, 1) := by decide +kernel
theorem dX10_again_20 : decode cX10_again 20 = .ok (.aload_n 0, 1) := by decide +kernel
theorem dX10_again_21 : decode cX10_again 21 = .ok (.getfield 10, 3) := by decide +kernel
theorem dX10_again_24 : decode cX10_again 24 = .ok (.aload_n 0, 1) := by decide +kernel
theorem dX10_again_25 : decode cX10_again 25 = .ok (.getfield 16, 3) := by decide +kernel
theorem dX10_again_28 : decode cX10_again 28 = .ok (.iload_n 1, 1) := by decide +kernel
theorem dX10_again_29 : decode cX10_again 29 = .ok (.aaload, 1) := by decide +kernel
theorem dX10_again_30 : decode cX10_again 30 = .ok (.invokevirtual 214, 3) := by decide +kernel
theorem dX10_again_33 : decode cX10_again 33 = .ok (.iconst 1, 1) := by decide +kernel
theorem dX10_again_34 : decode cX10_again 34 = .ok (.ireturn, 1) := by decide +kernel
theorem dX10_numberOf_0 : decode cX10_numberOf 0 = .ok (.iload_n 2, 1) := by decide +kernel
theorem dX10_numberOf_1 : decode cX10_numberOf 1 = .ok (.ifCond .lt 14, 3) := by decide +kernel
theorem dX10_numberOf_4 : decode cX10_numberOf 4 = .ok (.iload_n 2, 1) := by decide +kernel
theorem dX10_numberOf_5 : decode cX10_numberOf 5 = .ok (.iload_n 1, 1) := by decide +kernel
theorem dX10_numberOf_6 : decode cX10_numberOf 6 = .ok (.if_icmp .ge 9, 3) := by decide +kernel
theorem dX10_numberOf_9 : decode cX10_numberOf 9 = .ok (.aload_n 0, 1) := by decide +kernel
theorem dX10_numberOf_10 : decode cX10_numberOf 10 = .ok (.iload_n 2, 1) := by decide +kernel
theorem dX10_numberOf_11 : decode cX10_numberOf 11 = .ok (.iaload, 1) := by decide +kernel
theorem dX10_numberOf_12 : decode cX10_numberOf 12 = .ok (.goto 4, 3) := by decide +kernel
theorem dX10_numberOf_15 : decode cX10_numberOf 15 = .ok (.iconst 0, 1) := by decide +kernel
theorem dX10_numberOf_16 : decode cX10_numberOf 16 = .ok (.ireturn, 1) := by decide +kernel
theorem dJ7_fill_53178_0 : decode cJ7_fill_53178 0 = .ok (.iconst 0, 1) := by decide +kernel
theorem dJ7_fill_53178_1 : decode cJ7_fill_53178 1 = .ok (.istore_n 2, 1) := by decide +kernel
theorem dJ7_fill_53178_2 : decode cJ7_fill_53178 2 = .ok (.aload_n 0, 1) := by decide +kernel
theorem dJ7_fill_53178_3 : decode cJ7_fill_53178 3 = .ok (.arraylength, 1) := by decide +kernel
theorem dJ7_fill_53178_4 : decode cJ7_fill_53178 4 = .ok (.istore_n 3, 1) := by decide +kernel
theorem dJ7_fill_53178_5 : decode cJ7_fill_53178 5 = .ok (.iload_n 2, 1) := by decide +kernel
theorem dJ7_fill_53178_6 : decode cJ7_fill_53178 6 = .ok (.iload_n 3, 1) := by decide +kernel
theorem dJ7_fill_53178_7 : decode cJ7_fill_53178 7 = .ok (.if_icmp .ge 13, 3) := by decide +kernel
theorem dJ7_fill_53178_10 : decode cJ7_fill_53178 10 = .ok (.aload_n 0, 1) := by decide +kernel
theorem dJ7_fill_53178_11 : decode cJ7_fill_53178 11 = .ok (.iload_n 2, 1) := by decide +kernel
theorem dJ7_fill_53178_12 : decode cJ7_fill_53178 12 = .ok (.iload_n 1, 1) := by decide +kernel
theorem dJ7_fill_53178_13 : decode cJ7_fill_53178 13 = .ok (.iastore, 1) := by decide +kernel
theorem dJ7_fill_53178_14 : decode cJ7_fill_53178 14 = .ok (.iinc 2 1, 3) := by decide +kernel
theorem dJ7_fill_53178_17 : decode cJ7_fill_53178 17 = .ok (.goto (-12), 3) := by decide +kernel
theorem dJ7_fill_53178_20 : decode cJ7_fill_53178 20 = .ok (.return_, 1) := by decide +kernel
end
section
/-! how the bytes of each method read -/
theorem dL_law_0 : decode cL_law 0 = .ok (.new 7, 3) := by decide +kernel
theorem dL_law_3 : decode cL_law 3 = .ok (.dup, 1) := by decide +kernel
theorem dL_law_4 : decode cL_law 4 = .ok (.invokespecial 9, 3) := by decide +kernel
theorem dL_law_7 : decode cL_law 7 = .ok (.astore_n 1, 1) := by decide +kernel
theorem dL_law_8 : decode cL_law 8 = .ok (.new 10, 3) := by decide +kernel
theorem dL_law_11 : decode cL_law 11 = .ok (.dup, 1) := by decide +kernel
theorem dL_law_12 : decode cL_law 12 = .ok (.invokespecial 12, 3) := by decide +kernel
theorem dL_law_15 : decode cL_law 15 = .ok (.astore_n 2, 1) := by decide +kernel
theorem dL_law_16 : decode cL_law 16 = .ok (.iconst 0, 1) := by decide +kernel
theorem dL_law_17 : decode cL_law 17 = .ok (.istore_n 3, 1) := by decide +kernel
theorem dL_law_18 : decode cL_law 18 = .ok (.iload_n 3, 1) := by decide +kernel
theorem dL_law_19 : decode cL_law 19 = .ok (.aload_n 0, 1) := by decide +kernel
theorem dL_law_20 : decode cL_law 20 = .ok (.arraylength, 1) := by decide +kernel
theorem dL_law_21 : decode cL_law 21 = .ok (.bipush 6, 2) := by decide +kernel
theorem dL_law_23 : decode cL_law 23 = .ok (.isub, 1) := by decide +kernel
theorem dL_law_24 : decode cL_law 24 = .ok (.if_icmp .gt 810, 3) := by decide +kernel
theorem dL_law_27 : decode cL_law 27 = .ok (.aload_n 0, 1) := by decide +kernel
theorem dL_law_28 : decode cL_law 28 = .ok (.iload_n 3, 1) := by decide +kernel
theorem dL_law_29 : decode cL_law 29 = .ok (.iaload, 1) := by decide +kernel
theorem dL_law_30 : decode cL_law 30 = .ok (.bipush 31, 2) := by decide +kernel
theorem dL_law_32 : decode cL_law 32 = .ok (.iand, 1) := by decide +kernel
theorem dL_law_33 : decode cL_law 33 = .ok (.tableswitch 795 0 21 #[103, 116, 159, 202, 245, 308, 319, 352, 375, 408, 431, 490, 513, 546, 585, 634, 667, 680, 713, 726, 749, 772], 103) := by decide +kernel
theorem dL_law_136 : decode cL_law 136 = .ok (.aload_n 1, 1) := by decide +kernel
theorem dL_law_137 : decode cL_law 137 = .ok (.invokevirtual 13, 3) := by decide +kernel
theorem dL_law_140 : decode cL_law 140 = .ok (.aload_n 2, 1) := by decide +kernel
theorem dL_law_141 : decode cL_law 141 = .ok (.invokevirtual 17, 3) := by decide +kernel
theorem dL_law_144 : decode cL_law 144 = .ok (.if_icmp .eq 684, 3) := by decide +kernel
theorem dL_law_147 : decode cL_law 147 = .ok (.iconst 0, 1) := by decide +kernel
theorem dL_law_148 : decode cL_law 148 = .ok (.ireturn, 1) := by decide +kernel
theorem dL_law_149 : decode cL_law 149 = .ok (.aload_n 1, 1) := by decide +kernel
theorem dL_law_150 : decode cL_law 150 = .ok (.aload_n 0, 1) := by decide +kernel
theorem dL_law_151 : decode cL_law 151 = .ok (.iload_n 3, 1) := by decide +kernel
theorem dL_law_152 : decode cL_law 152 = .ok (.iconst 1, 1) := by decide +kernel
theorem dL_law_153 : decode cL_law 153 = .ok (.iadd, 1) := by decide +kernel
theorem dL_law_154 : decode cL_law 154 = .ok (.iaload, 1) := by decide +kernel
theorem dL_law_155 : decode cL_law 155 = .ok (.aload_n 0, 1) := by decide +kernel
theorem dL_law_156 : decode cL_law 156 = .ok (.iload_n 3, 1) := by decide +kernel
theorem dL_law_157 : decode cL_law 157 = .ok (.iconst 2, 1) := by decide +kernel
theorem dL_law_158 : decode cL_law 158 = .ok (.iadd, 1) := by decide +kernel
theorem dL_law_159 : decode cL_law 159 = .ok (.iaload, 1) := by decide +kernel
theorem dL_law_160 : decode cL_law 160 = .ok (.aload_n 0, 1) := by decide +kernel
theorem dL_law_161 : decode cL_law 161 = .ok (.iload_n 3, 1) := by decide +kernel
theorem dL_law_162 : decode cL_law 162 = .ok (.iconst 3, 1) := by decide +kernel
theorem dL_law_163 : decode cL_law 163 = .ok (.iadd, 1) := by decide +kernel
theorem dL_law_164 : decode cL_law 164 = .ok (.iaload, 1) := by decide +kernel
theorem dL_law_165 : decode cL_law 165 = .ok (.invokevirtual 18, 3) := by decide +kernel
theorem dL_law_168 : decode cL_law 168 = .ok (.aload_n 2, 1) := by decide +kernel
theorem dL_law_169 : decode cL_law 169 = .ok (.aload_n 0, 1) := by decide +kernel
theorem dL_law_170 : decode cL_law 170 = .ok (.iload_n 3, 1) := by decide +kernel
theorem dL_law_171 : decode cL_law 171 = .ok (.iconst 1, 1) := by decide +kernel
theorem dL_law_172 : decode cL_law 172 = .ok (.iadd, 1) := by decide +kernel
theorem dL_law_173 : decode cL_law 173 = .ok (.iaload, 1) := by decide +kernel
theorem dL_law_174 : decode cL_law 174 = .ok (.aload_n 0, 1) := by decide +kernel
theorem dL_law_175 : decode cL_law 175 = .ok (.iload_n 3, 1) := by decide +kernel
theorem dL_law_176 : decode cL_law 176 = .ok (.iconst 2, 1) := by decide +kernel
theorem dL_law_177 : decode cL_law 177 = .ok (.iadd, 1) := by decide +kernel
theorem dL_law_178 : decode cL_law 178 = .ok (.iaload, 1) := by decide +kernel
theorem dL_law_179 : decode cL_law 179 = .ok (.aload_n 0, 1) := by decide +kernel
theorem dL_law_180 : decode cL_law 180 = .ok (.iload_n 3, 1) := by decide +kernel
theorem dL_law_181 : decode cL_law 181 = .ok (.iconst 3, 1) := by decide +kernel
theorem dL_law_182 : decode cL_law 182 = .ok (.iadd, 1) := by decide +kernel
theorem dL_law_183 : decode cL_law 183 = .ok (.iaload, 1) := by decide +kernel
theorem dL_law_184 : decode cL_law 184 = .ok (.invokevirtual 22, 3) := by decide +kernel
theorem dL_law_187 : decode cL_law 187 = .ok (.if_icmp .eq 641, 3) := by decide +kernel
theorem dL_law_190 : decode cL_law 190 = .ok (.iconst 0, 1) := by decide +kernel
theorem dL_law_191 : decode cL_law 191 = .ok (.ireturn, 1) := by decide +kernel
theorem dL_law_192 : decode cL_law 192 = .ok (.aload_n 1, 1) := by decide +kernel
theorem dL_law_193 : decode cL_law 193 = .ok (.aload_n 0, 1) := by decide +kernel
theorem dL_law_194 : decode cL_law 194 = .ok (.iload_n 3, 1) := by decide +kernel
theorem dL_law_195 : decode cL_law 195 = .ok (.iconst 1, 1) := by decide +kernel
theorem dL_law_196 : decode cL_law 196 = .ok (.iadd, 1) := by decide +kernel
theorem dL_law_197 : decode cL_law 197 = .ok (.iaload, 1) := by decide +kernel
theorem dL_law_198 : decode cL_law 198 = .ok (.aload_n 0, 1) := by decide +kernel
theorem dL_law_199 : decode cL_law 199 = .ok (.iload_n 3, 1) := by decide +kernel
theorem dL_law_200 : decode cL_law 200 = .ok (.iconst 2, 1) := by decide +kernel
theorem dL_law_201 : decode cL_law 201 = .ok (.iadd, 1) := by decide +kernel
theorem dL_law_202 : decode cL_law 202 = .ok (.iaload, 1) := by decide +kernel
theorem dL_law_203 : decode cL_law 203 = .ok (.aload_n 0, 1) := by decide +kernel
theorem dL_law_204 : decode cL_law 204 = .ok (.iload_n 3, 1) := by decide +kernel
theorem dL_law_205 : decode cL_law 205 = .ok (.iconst 3, 1) := by decide +kernel
theorem dL_law_206 : decode cL_law 206 = .ok (.iadd, 1) := by decide +kernel
theorem dL_law_207 : decode cL_law 207 = .ok (.iaload, 1) := by decide +kernel
theorem dL_law_208 : decode cL_law 208 = .ok (.invokevirtual 23, 3) := by decide +kernel
theorem dL_law_211 : decode cL_law 211 = .ok (.aload_n 2, 1) := by decide +kernel
theorem dL_law_212 : decode cL_law 212 = .ok (.aload_n 0, 1) := by decide +kernel
theorem dL_law_213 : decode cL_law 213 = .ok (.iload_n 3, 1) := by decide +kernel
theorem dL_law_214 : decode cL_law 214 = .ok (.iconst 1, 1) := by decide +kernel
theorem dL_law_215 : decode cL_law 215 = .ok (.iadd, 1) := by decide +kernel
theorem dL_law_216 : decode cL_law 216 = .ok (.iaload, 1) := by decide +kernel
theorem dL_law_217 : decode cL_law 217 = .ok (.aload_n 0, 1) := by decide +kernel
theorem dL_law_218 : decode cL_law 218 = .ok (.iload_n 3, 1) := by decide +kernel
theorem dL_law_219 : decode cL_law 219 = .ok (.iconst 2, 1) := by decide +kernel
theorem dL_law_220 : decode cL_law 220 = .ok (.iadd, 1) := by decide +kernel
theorem dL_law_221 : decode cL_law 221 = .ok (.iaload, 1) := by decide +kernel
theorem dL_law_222 : decode cL_law 222 = .ok (.aload_n 0, 1) := by decide +kernel
theorem dL_law_223 : decode cL_law 223 = .ok (.iload_n 3, 1) := by decide +kernel
theorem dL_law_224 : decode cL_law 224 = .ok (.iconst 3, 1) := by decide +kernel
theorem dL_law_225 : decode cL_law 225 = .ok (.iadd, 1) := by decide +kernel
theorem dL_law_226 : decode cL_law 226 = .ok (.iaload, 1) := by decide +kernel
theorem dL_law_227 : decode cL_law 227 = .ok (.invokevirtual 27, 3) := by decide +kernel
theorem dL_law_230 : decode cL_law 230 = .ok (.if_icmp .eq 598, 3) := by decide +kernel
theorem dL_law_233 : decode cL_law 233 = .ok (.iconst 0, 1) := by decide +kernel
theorem dL_law_234 : decode cL_law 234 = .ok (.ireturn, 1) := by decide +kernel
theorem dL_law_235 : decode cL_law 235 = .ok (.aload_n 1, 1) := by decide +kernel
theorem dL_law_236 : decode cL_law 236 = .ok (.aload_n 0, 1) := by decide +kernel
theorem dL_law_237 : decode cL_law 237 = .ok (.iload_n 3, 1) := by decide +kernel
theorem dL_law_238 : decode cL_law 238 = .ok (.iconst 1, 1) := by decide +kernel
theorem dL_law_239 : decode cL_law 239 = .ok (.iadd, 1) := by decide +kernel
theorem dL_law_240 : decode cL_law 240 = .ok (.iaload, 1) := by decide +kernel
theorem dL_law_241 : decode cL_law 241 = .ok (.aload_n 0, 1) := by decide +kernel
theorem dL_law_242 : decode cL_law 242 = .ok (.iload_n 3, 1) := by decide +kernel
theorem dL_law_243 : decode cL_law 243 = .ok (.iconst 2, 1) := by decide +kernel
theorem dL_law_244 : decode cL_law 244 = .ok (.iadd, 1) := by decide +kernel
theorem dL_law_245 : decode cL_law 245 = .ok (.iaload, 1) := by decide +kernel
theorem dL_law_246 : decode cL_law 246 = .ok (.aload_n 0, 1) := by decide +kernel
theorem dL_law_247 : decode cL_law 247 = .ok (.iload_n 3, 1) := by decide +kernel
theorem dL_law_248 : decode cL_law 248 = .ok (.iconst 3, 1) := by decide +kernel
theorem dL_law_249 : decode cL_law 249 = .ok (.iadd, 1) := by decide +kernel
theorem dL_law_250 : decode cL_law 250 = .ok (.iaload, 1) := by decide +kernel
theorem dL_law_251 : decode cL_law 251 = .ok (.invokevirtual 28, 3) := by decide +kernel
theorem dL_law_254 : decode cL_law 254 = .ok (.aload_n 2, 1) := by decide +kernel
theorem dL_law_255 : decode cL_law 255 = .ok (.aload_n 0, 1) := by decide +kernel
theorem dL_law_256 : decode cL_law 256 = .ok (.iload_n 3, 1) := by decide +kernel
theorem dL_law_257 : decode cL_law 257 = .ok (.iconst 1, 1) := by decide +kernel
theorem dL_law_258 : decode cL_law 258 = .ok (.iadd, 1) := by decide +kernel
theorem dL_law_259 : decode cL_law 259 = .ok (.iaload, 1) := by decide +kernel
theorem dL_law_260 : decode cL_law 260 = .ok (.aload_n 0, 1) := by decide +kernel
theorem dL_law_261 : decode cL_law 261 = .ok (.iload_n 3, 1) := by decide +kernel
theorem dL_law_262 : decode cL_law 262 = .ok (.iconst 2, 1) := by decide +kernel
theorem dL_law_263 : decode cL_law 263 = .ok (.iadd, 1) := by decide +kernel
theorem dL_law_264 : decode cL_law 264 = .ok (.iaload, 1) := by decide +kernel
theorem dL_law_265 : decode cL_law 265 = .ok (.aload_n 0, 1) := by decide +kernel
theorem dL_law_266 : decode cL_law 266 = .ok (.iload_n 3, 1) := by decide +kernel
theorem dL_law_267 : decode cL_law 267 = .ok (.iconst 3, 1) := by decide +kernel
theorem dL_law_268 : decode cL_law 268 = .ok (.iadd, 1) := by decide +kernel
theorem dL_law_269 : decode cL_law 269 = .ok (.iaload, 1) := by decide +kernel
theorem dL_law_270 : decode cL_law 270 = .ok (.invokevirtual 31, 3) := by decide +kernel
theorem dL_law_273 : decode cL_law 273 = .ok (.if_icmp .eq 555, 3) := by decide +kernel
theorem dL_law_276 : decode cL_law 276 = .ok (.iconst 0, 1) := by decide +kernel
theorem dL_law_277 : decode cL_law 277 = .ok (.ireturn, 1) := by decide +kernel
theorem dL_law_278 : decode cL_law 278 = .ok (.aload_n 1, 1) := by decide +kernel
theorem dL_law_279 : decode cL_law 279 = .ok (.aload_n 0, 1) := by decide +kernel
theorem dL_law_280 : decode cL_law 280 = .ok (.iload_n 3, 1) := by decide +kernel
theorem dL_law_281 : decode cL_law 281 = .ok (.iconst 1, 1) := by decide +kernel
theorem dL_law_282 : decode cL_law 282 = .ok (.iadd, 1) := by decide +kernel
theorem dL_law_283 : decode cL_law 283 = .ok (.iaload, 1) := by decide +kernel
theorem dL_law_284 : decode cL_law 284 = .ok (.aload_n 0, 1) := by decide +kernel
theorem dL_law_285 : decode cL_law 285 = .ok (.iload_n 3, 1) := by decide +kernel
theorem dL_law_286 : decode cL_law 286 = .ok (.iconst 2, 1) := by decide +kernel
theorem dL_law_287 : decode cL_law 287 = .ok (.iadd, 1) := by decide +kernel
theorem dL_law_288 : decode cL_law 288 = .ok (.iaload, 1) := by decide +kernel
theorem dL_law_289 : decode cL_law 289 = .ok (.aload_n 0, 1) := by decide +kernel
theorem dL_law_290 : decode cL_law 290 = .ok (.iload_n 3, 1) := by decide +kernel
theorem dL_law_291 : decode cL_law 291 = .ok (.iconst 3, 1) := by decide +kernel
theorem dL_law_292 : decode cL_law 292 = .ok (.iadd, 1) := by decide +kernel
theorem dL_law_293 : decode cL_law 293 = .ok (.iaload, 1) := by decide +kernel
theorem dL_law_294 : decode cL_law 294 = .ok (.aload_n 0, 1) := by decide +kernel
theorem dL_law_295 : decode cL_law 295 = .ok (.iload_n 3, 1) := by decide +kernel
theorem dL_law_296 : decode cL_law 296 = .ok (.iconst 4, 1) := by decide +kernel
theorem dL_law_297 : decode cL_law 297 = .ok (.iadd, 1) := by decide +kernel
theorem dL_law_298 : decode cL_law 298 = .ok (.iaload, 1) := by decide +kernel
theorem dL_law_299 : decode cL_law 299 = .ok (.aload_n 0, 1) := by decide +kernel
theorem dL_law_300 : decode cL_law 300 = .ok (.iload_n 3, 1) := by decide +kernel
theorem dL_law_301 : decode cL_law 301 = .ok (.iconst 5, 1) := by decide +kernel
theorem dL_law_302 : decode cL_law 302 = .ok (.iadd, 1) := by decide +kernel
theorem dL_law_303 : decode cL_law 303 = .ok (.iaload, 1) := by decide +kernel
theorem dL_law_304 : decode cL_law 304 = .ok (.invokevirtual 32, 3) := by decide +kernel
theorem dL_law_307 : decode cL_law 307 = .ok (.aload_n 2, 1) := by decide +kernel
theorem dL_law_308 : decode cL_law 308 = .ok (.aload_n 0, 1) := by decide +kernel
theorem dL_law_309 : decode cL_law 309 = .ok (.iload_n 3, 1) := by decide +kernel
theorem dL_law_310 : decode cL_law 310 = .ok (.iconst 1, 1) := by decide +kernel
theorem dL_law_311 : decode cL_law 311 = .ok (.iadd, 1) := by decide +kernel
theorem dL_law_312 : decode cL_law 312 = .ok (.iaload, 1) := by decide +kernel
theorem dL_law_313 : decode cL_law 313 = .ok (.aload_n 0, 1) := by decide +kernel
theorem dL_law_314 : decode cL_law 314 = .ok (.iload_n 3, 1) := by decide +kernel
theorem dL_law_315 : decode cL_law 315 = .ok (.iconst 2, 1) := by decide +kernel
theorem dL_law_316 : decode cL_law 316 = .ok (.iadd, 1) := by decide +kernel
theorem dL_law_317 : decode cL_law 317 = .ok (.iaload, 1) := by decide +kernel
theorem dL_law_318 : decode cL_law 318 = .ok (.aload_n 0, 1) := by decide +kernel
theorem dL_law_319 : decode cL_law 319 = .ok (.iload_n 3, 1) := by decide +kernel
theorem dL_law_320 : decode cL_law 320 = .ok (.iconst 3, 1) := by decide +kernel
theorem dL_law_321 : decode cL_law 321 = .ok (.iadd, 1) := by decide +kernel
theorem dL_law_322 : decode cL_law 322 = .ok (.iaload, 1) := by decide +kernel
theorem dL_law_323 : decode cL_law 323 = .ok (.aload_n 0, 1) := by decide +kernel
theorem dL_law_324 : decode cL_law 324 = .ok (.iload_n 3, 1) := by decide +kernel
theorem dL_law_325 : decode cL_law 325 = .ok (.iconst 4, 1) := by decide +kernel
theorem dL_law_326 : decode cL_law 326 = .ok (.iadd, 1) := by decide +kernel
theorem dL_law_327 : decode cL_law 327 = .ok (.iaload, 1) := by decide +kernel
theorem dL_law_328 : decode cL_law 328 = .ok (.aload_n 0, 1) := by decide +kernel
theorem dL_law_329 : decode cL_law 329 = .ok (.iload_n 3, 1) := by decide +kernel
theorem dL_law_330 : decode cL_law 330 = .ok (.iconst 5, 1) := by decide +kernel
theorem dL_law_331 : decode cL_law 331 = .ok (.iadd, 1) := by decide +kernel
theorem dL_law_332 : decode cL_law 332 = .ok (.iaload, 1) := by decide +kernel
theorem dL_law_333 : decode cL_law 333 = .ok (.invokevirtual 36, 3) := by decide +kernel
theorem dL_law_336 : decode cL_law 336 = .ok (.if_icmp .eq 492, 3) := by decide +kernel
theorem dL_law_339 : decode cL_law 339 = .ok (.iconst 0, 1) := by decide +kernel
theorem dL_law_340 : decode cL_law 340 = .ok (.ireturn, 1) := by decide +kernel
theorem dL_law_341 : decode cL_law 341 = .ok (.aload_n 1, 1) := by decide +kernel
theorem dL_law_342 : decode cL_law 342 = .ok (.invokevirtual 37, 3) := by decide +kernel
theorem dL_law_345 : decode cL_law 345 = .ok (.aload_n 2, 1) := by decide +kernel
theorem dL_law_346 : decode cL_law 346 = .ok (.invokevirtual 40, 3) := by decide +kernel
theorem dL_law_349 : decode cL_law 349 = .ok (.goto 479, 3) := by decide +kernel
theorem dL_law_352 : decode cL_law 352 = .ok (.aload_n 1, 1) := by decide +kernel
theorem dL_law_353 : decode cL_law 353 = .ok (.aload_n 0, 1) := by decide +kernel
theorem dL_law_354 : decode cL_law 354 = .ok (.iload_n 3, 1) := by decide +kernel
theorem dL_law_355 : decode cL_law 355 = .ok (.iconst 1, 1) := by decide +kernel
theorem dL_law_356 : decode cL_law 356 = .ok (.iadd, 1) := by decide +kernel
theorem dL_law_357 : decode cL_law 357 = .ok (.iaload, 1) := by decide +kernel
theorem dL_law_358 : decode cL_law 358 = .ok (.aload_n 0, 1) := by decide +kernel
theorem dL_law_359 : decode cL_law 359 = .ok (.iload_n 3, 1) := by decide +kernel
theorem dL_law_360 : decode cL_law 360 = .ok (.iconst 2, 1) := by decide +kernel
theorem dL_law_361 : decode cL_law 361 = .ok (.iadd, 1) := by decide +kernel
theorem dL_law_362 : decode cL_law 362 = .ok (.iaload, 1) := by decide +kernel
theorem dL_law_363 : decode cL_law 363 = .ok (.invokevirtual 41, 3) := by decide +kernel
theorem dL_law_366 : decode cL_law 366 = .ok (.aload_n 2, 1) := by decide +kernel
theorem dL_law_367 : decode cL_law 367 = .ok (.aload_n 0, 1) := by decide +kernel
theorem dL_law_368 : decode cL_law 368 = .ok (.iload_n 3, 1) := by decide +kernel
theorem dL_law_369 : decode cL_law 369 = .ok (.iconst 1, 1) := by decide +kernel
theorem dL_law_370 : decode cL_law 370 = .ok (.iadd, 1) := by decide +kernel
theorem dL_law_371 : decode cL_law 371 = .ok (.iaload, 1) := by decide +kernel
theorem dL_law_372 : decode cL_law 372 = .ok (.aload_n 0, 1) := by decide +kernel
theorem dL_law_373 : decode cL_law 373 = .ok (.iload_n 3, 1) := by decide +kernel
theorem dL_law_374 : decode cL_law 374 = .ok (.iconst 2, 1) := by decide +kernel
theorem dL_law_375 : decode cL_law 375 = .ok (.iadd, 1) := by decide +kernel
theorem dL_law_376 : decode cL_law 376 = .ok (.iaload, 1) := by decide +kernel
theorem dL_law_377 : decode cL_law 377 = .ok (.invokevirtual 45, 3) := by decide +kernel
theorem dL_law_380 : decode cL_law 380 = .ok (.if_icmp .eq 448, 3) := by decide +kernel
theorem dL_law_383 : decode cL_law 383 = .ok (.iconst 0, 1) := by decide +kernel
theorem dL_law_384 : decode cL_law 384 = .ok (.ireturn, 1) := by decide +kernel
theorem dL_law_385 : decode cL_law 385 = .ok (.aload_n 1, 1) := by decide +kernel
theorem dL_law_386 : decode cL_law 386 = .ok (.aload_n 0, 1) := by decide +kernel
theorem dL_law_387 : decode cL_law 387 = .ok (.iload_n 3, 1) := by decide +kernel
theorem dL_law_388 : decode cL_law 388 = .ok (.iconst 1, 1) := by decide +kernel
theorem dL_law_389 : decode cL_law 389 = .ok (.iadd, 1) := by decide +kernel
theorem dL_law_390 : decode cL_law 390 = .ok (.iaload, 1) := by decide +kernel
theorem dL_law_391 : decode cL_law 391 = .ok (.invokevirtual 46, 3) := by decide +kernel
theorem dL_law_394 : decode cL_law 394 = .ok (.aload_n 2, 1) := by decide +kernel
theorem dL_law_395 : decode cL_law 395 = .ok (.aload_n 0, 1) := by decide +kernel
theorem dL_law_396 : decode cL_law 396 = .ok (.iload_n 3, 1) := by decide +kernel
theorem dL_law_397 : decode cL_law 397 = .ok (.iconst 1, 1) := by decide +kernel
theorem dL_law_398 : decode cL_law 398 = .ok (.iadd, 1) := by decide +kernel
theorem dL_law_399 : decode cL_law 399 = .ok (.iaload, 1) := by decide +kernel
theorem dL_law_400 : decode cL_law 400 = .ok (.invokevirtual 50, 3) := by decide +kernel
theorem dL_law_403 : decode cL_law 403 = .ok (.if_icmp .eq 425, 3) := by decide +kernel
theorem dL_law_406 : decode cL_law 406 = .ok (.iconst 0, 1) := by decide +kernel
theorem dL_law_407 : decode cL_law 407 = .ok (.ireturn, 1) := by decide +kernel
theorem dL_law_408 : decode cL_law 408 = .ok (.aload_n 1, 1) := by decide +kernel
theorem dL_law_409 : decode cL_law 409 = .ok (.aload_n 0, 1) := by decide +kernel
theorem dL_law_410 : decode cL_law 410 = .ok (.iload_n 3, 1) := by decide +kernel
theorem dL_law_411 : decode cL_law 411 = .ok (.iconst 1, 1) := by decide +kernel
theorem dL_law_412 : decode cL_law 412 = .ok (.iadd, 1) := by decide +kernel
theorem dL_law_413 : decode cL_law 413 = .ok (.iaload, 1) := by decide +kernel
theorem dL_law_414 : decode cL_law 414 = .ok (.aload_n 0, 1) := by decide +kernel
theorem dL_law_415 : decode cL_law 415 = .ok (.iload_n 3, 1) := by decide +kernel
theorem dL_law_416 : decode cL_law 416 = .ok (.iconst 2, 1) := by decide +kernel
theorem dL_law_417 : decode cL_law 417 = .ok (.iadd, 1) := by decide +kernel
theorem dL_law_418 : decode cL_law 418 = .ok (.iaload, 1) := by decide +kernel
theorem dL_law_419 : decode cL_law 419 = .ok (.invokevirtual 51, 3) := by decide +kernel
theorem dL_law_422 : decode cL_law 422 = .ok (.aload_n 2, 1) := by decide +kernel
theorem dL_law_423 : decode cL_law 423 = .ok (.aload_n 0, 1) := by decide +kernel
theorem dL_law_424 : decode cL_law 424 = .ok (.iload_n 3, 1) := by decide +kernel
theorem dL_law_425 : decode cL_law 425 = .ok (.iconst 1, 1) := by decide +kernel
theorem dL_law_426 : decode cL_law 426 = .ok (.iadd, 1) := by decide +kernel
theorem dL_law_427 : decode cL_law 427 = .ok (.iaload, 1) := by decide +kernel
theorem dL_law_428 : decode cL_law 428 = .ok (.aload_n 0, 1) := by decide +kernel
theorem dL_law_429 : decode cL_law 429 = .ok (.iload_n 3, 1) := by decide +kernel
theorem dL_law_430 : decode cL_law 430 = .ok (.iconst 2, 1) := by decide +kernel
theorem dL_law_431 : decode cL_law 431 = .ok (.iadd, 1) := by decide +kernel
theorem dL_law_432 : decode cL_law 432 = .ok (.iaload, 1) := by decide +kernel
theorem dL_law_433 : decode cL_law 433 = .ok (.invokevirtual 54, 3) := by decide +kernel
theorem dL_law_436 : decode cL_law 436 = .ok (.if_icmp .eq 392, 3) := by decide +kernel
theorem dL_law_439 : decode cL_law 439 = .ok (.iconst 0, 1) := by decide +kernel
theorem dL_law_440 : decode cL_law 440 = .ok (.ireturn, 1) := by decide +kernel
theorem dL_law_441 : decode cL_law 441 = .ok (.aload_n 1, 1) := by decide +kernel
theorem dL_law_442 : decode cL_law 442 = .ok (.aload_n 0, 1) := by decide +kernel
theorem dL_law_443 : decode cL_law 443 = .ok (.iload_n 3, 1) := by decide +kernel
theorem dL_law_444 : decode cL_law 444 = .ok (.iconst 1, 1) := by decide +kernel
theorem dL_law_445 : decode cL_law 445 = .ok (.iadd, 1) := by decide +kernel
theorem dL_law_446 : decode cL_law 446 = .ok (.iaload, 1) := by decide +kernel
theorem dL_law_447 : decode cL_law 447 = .ok (.invokevirtual 55, 3) := by decide +kernel
theorem dL_law_450 : decode cL_law 450 = .ok (.aload_n 2, 1) := by decide +kernel
theorem dL_law_451 : decode cL_law 451 = .ok (.aload_n 0, 1) := by decide +kernel
theorem dL_law_452 : decode cL_law 452 = .ok (.iload_n 3, 1) := by decide +kernel
theorem dL_law_453 : decode cL_law 453 = .ok (.iconst 1, 1) := by decide +kernel
theorem dL_law_454 : decode cL_law 454 = .ok (.iadd, 1) := by decide +kernel
theorem dL_law_455 : decode cL_law 455 = .ok (.iaload, 1) := by decide +kernel
theorem dL_law_456 : decode cL_law 456 = .ok (.invokevirtual 58, 3) := by decide +kernel
theorem dL_law_459 : decode cL_law 459 = .ok (.if_icmp .eq 369, 3) := by decide +kernel
theorem dL_law_462 : decode cL_law 462 = .ok (.iconst 0, 1) := by decide +kernel
theorem dL_law_463 : decode cL_law 463 = .ok (.ireturn, 1) := by decide +kernel
theorem dL_law_464 : decode cL_law 464 = .ok (.aload_n 1, 1) := by decide +kernel
theorem dL_law_465 : decode cL_law 465 = .ok (.aload_n 0, 1) := by decide +kernel
theorem dL_law_466 : decode cL_law 466 = .ok (.iload_n 3, 1) := by decide +kernel
theorem dL_law_467 : decode cL_law 467 = .ok (.iconst 1, 1) := by decide +kernel
theorem dL_law_468 : decode cL_law 468 = .ok (.iadd, 1) := by decide +kernel
theorem dL_law_469 : decode cL_law 469 = .ok (.iaload, 1) := by decide +kernel
theorem dL_law_470 : decode cL_law 470 = .ok (.aload_n 0, 1) := by decide +kernel
theorem dL_law_471 : decode cL_law 471 = .ok (.iload_n 3, 1) := by decide +kernel
theorem dL_law_472 : decode cL_law 472 = .ok (.iconst 2, 1) := by decide +kernel
theorem dL_law_473 : decode cL_law 473 = .ok (.iadd, 1) := by decide +kernel
theorem dL_law_474 : decode cL_law 474 = .ok (.iaload, 1) := by decide +kernel
theorem dL_law_475 : decode cL_law 475 = .ok (.ifCond .eq 7, 3) := by decide +kernel
theorem dL_law_478 : decode cL_law 478 = .ok (.iconst 1, 1) := by decide +kernel
theorem dL_law_479 : decode cL_law 479 = .ok (.goto 4, 3) := by decide +kernel
theorem dL_law_482 : decode cL_law 482 = .ok (.iconst 0, 1) := by decide +kernel
theorem dL_law_483 : decode cL_law 483 = .ok (.aload_n 0, 1) := by decide +kernel
theorem dL_law_484 : decode cL_law 484 = .ok (.iload_n 3, 1) := by decide +kernel
theorem dL_law_485 : decode cL_law 485 = .ok (.iconst 3, 1) := by decide +kernel
theorem dL_law_486 : decode cL_law 486 = .ok (.iadd, 1) := by decide +kernel
theorem dL_law_487 : decode cL_law 487 = .ok (.iaload, 1) := by decide +kernel
theorem dL_law_488 : decode cL_law 488 = .ok (.invokevirtual 59, 3) := by decide +kernel
theorem dL_law_491 : decode cL_law 491 = .ok (.aload_n 2, 1) := by decide +kernel
theorem dL_law_492 : decode cL_law 492 = .ok (.aload_n 0, 1) := by decide +kernel
theorem dL_law_493 : decode cL_law 493 = .ok (.iload_n 3, 1) := by decide +kernel
theorem dL_law_494 : decode cL_law 494 = .ok (.iconst 1, 1) := by decide +kernel
theorem dL_law_495 : decode cL_law 495 = .ok (.iadd, 1) := by decide +kernel
theorem dL_law_496 : decode cL_law 496 = .ok (.iaload, 1) := by decide +kernel
theorem dL_law_497 : decode cL_law 497 = .ok (.aload_n 0, 1) := by decide +kernel
theorem dL_law_498 : decode cL_law 498 = .ok (.iload_n 3, 1) := by decide +kernel
theorem dL_law_499 : decode cL_law 499 = .ok (.iconst 2, 1) := by decide +kernel
theorem dL_law_500 : decode cL_law 500 = .ok (.iadd, 1) := by decide +kernel
theorem dL_law_501 : decode cL_law 501 = .ok (.iaload, 1) := by decide +kernel
theorem dL_law_502 : decode cL_law 502 = .ok (.ifCond .eq 7, 3) := by decide +kernel
theorem dL_law_505 : decode cL_law 505 = .ok (.iconst 1, 1) := by decide +kernel
theorem dL_law_506 : decode cL_law 506 = .ok (.goto 4, 3) := by decide +kernel
theorem dL_law_509 : decode cL_law 509 = .ok (.iconst 0, 1) := by decide +kernel
theorem dL_law_510 : decode cL_law 510 = .ok (.aload_n 0, 1) := by decide +kernel
theorem dL_law_511 : decode cL_law 511 = .ok (.iload_n 3, 1) := by decide +kernel
theorem dL_law_512 : decode cL_law 512 = .ok (.iconst 3, 1) := by decide +kernel
theorem dL_law_513 : decode cL_law 513 = .ok (.iadd, 1) := by decide +kernel
theorem dL_law_514 : decode cL_law 514 = .ok (.iaload, 1) := by decide +kernel
theorem dL_law_515 : decode cL_law 515 = .ok (.invokevirtual 63, 3) := by decide +kernel
theorem dL_law_518 : decode cL_law 518 = .ok (.if_icmp .eq 310, 3) := by decide +kernel
theorem dL_law_521 : decode cL_law 521 = .ok (.iconst 0, 1) := by decide +kernel
theorem dL_law_522 : decode cL_law 522 = .ok (.ireturn, 1) := by decide +kernel
theorem dL_law_523 : decode cL_law 523 = .ok (.aload_n 1, 1) := by decide +kernel
theorem dL_law_524 : decode cL_law 524 = .ok (.aload_n 0, 1) := by decide +kernel
theorem dL_law_525 : decode cL_law 525 = .ok (.iload_n 3, 1) := by decide +kernel
theorem dL_law_526 : decode cL_law 526 = .ok (.iconst 1, 1) := by decide +kernel
theorem dL_law_527 : decode cL_law 527 = .ok (.iadd, 1) := by decide +kernel
theorem dL_law_528 : decode cL_law 528 = .ok (.iaload, 1) := by decide +kernel
theorem dL_law_529 : decode cL_law 529 = .ok (.invokevirtual 64, 3) := by decide +kernel
theorem dL_law_532 : decode cL_law 532 = .ok (.aload_n 2, 1) := by decide +kernel
theorem dL_law_533 : decode cL_law 533 = .ok (.aload_n 0, 1) := by decide +kernel
theorem dL_law_534 : decode cL_law 534 = .ok (.iload_n 3, 1) := by decide +kernel
theorem dL_law_535 : decode cL_law 535 = .ok (.iconst 1, 1) := by decide +kernel
theorem dL_law_536 : decode cL_law 536 = .ok (.iadd, 1) := by decide +kernel
theorem dL_law_537 : decode cL_law 537 = .ok (.iaload, 1) := by decide +kernel
theorem dL_law_538 : decode cL_law 538 = .ok (.invokevirtual 67, 3) := by decide +kernel
theorem dL_law_541 : decode cL_law 541 = .ok (.if_icmp .eq 287, 3) := by decide +kernel
theorem dL_law_544 : decode cL_law 544 = .ok (.iconst 0, 1) := by decide +kernel
theorem dL_law_545 : decode cL_law 545 = .ok (.ireturn, 1) := by decide +kernel
theorem dL_law_546 : decode cL_law 546 = .ok (.aload_n 1, 1) := by decide +kernel
theorem dL_law_547 : decode cL_law 547 = .ok (.aload_n 0, 1) := by decide +kernel
theorem dL_law_548 : decode cL_law 548 = .ok (.iload_n 3, 1) := by decide +kernel
theorem dL_law_549 : decode cL_law 549 = .ok (.iconst 1, 1) := by decide +kernel
theorem dL_law_550 : decode cL_law 550 = .ok (.iadd, 1) := by decide +kernel
theorem dL_law_551 : decode cL_law 551 = .ok (.iaload, 1) := by decide +kernel
theorem dL_law_552 : decode cL_law 552 = .ok (.aload_n 0, 1) := by decide +kernel
theorem dL_law_553 : decode cL_law 553 = .ok (.iload_n 3, 1) := by decide +kernel
theorem dL_law_554 : decode cL_law 554 = .ok (.iconst 2, 1) := by decide +kernel
theorem dL_law_555 : decode cL_law 555 = .ok (.iadd, 1) := by decide +kernel
theorem dL_law_556 : decode cL_law 556 = .ok (.iaload, 1) := by decide +kernel
theorem dL_law_557 : decode cL_law 557 = .ok (.invokevirtual 68, 3) := by decide +kernel
theorem dL_law_560 : decode cL_law 560 = .ok (.aload_n 2, 1) := by decide +kernel
theorem dL_law_561 : decode cL_law 561 = .ok (.aload_n 0, 1) := by decide +kernel
theorem dL_law_562 : decode cL_law 562 = .ok (.iload_n 3, 1) := by decide +kernel
theorem dL_law_563 : decode cL_law 563 = .ok (.iconst 1, 1) := by decide +kernel
theorem dL_law_564 : decode cL_law 564 = .ok (.iadd, 1) := by decide +kernel
theorem dL_law_565 : decode cL_law 565 = .ok (.iaload, 1) := by decide +kernel
theorem dL_law_566 : decode cL_law 566 = .ok (.aload_n 0, 1) := by decide +kernel
theorem dL_law_567 : decode cL_law 567 = .ok (.iload_n 3, 1) := by decide +kernel
theorem dL_law_568 : decode cL_law 568 = .ok (.iconst 2, 1) := by decide +kernel
theorem dL_law_569 : decode cL_law 569 = .ok (.iadd, 1) := by decide +kernel
theorem dL_law_570 : decode cL_law 570 = .ok (.iaload, 1) := by decide +kernel
theorem dL_law_571 : decode cL_law 571 = .ok (.invokevirtual 71, 3) := by decide +kernel
theorem dL_law_574 : decode cL_law 574 = .ok (.if_icmp .eq 254, 3) := by decide +kernel
theorem dL_law_577 : decode cL_law 577 = .ok (.iconst 0, 1) := by decide +kernel
theorem dL_law_578 : decode cL_law 578 = .ok (.ireturn, 1) := by decide +kernel
theorem dL_law_579 : decode cL_law 579 = .ok (.aload_n 1, 1) := by decide +kernel
theorem dL_law_580 : decode cL_law 580 = .ok (.aload_n 0, 1) := by decide +kernel
theorem dL_law_581 : decode cL_law 581 = .ok (.iload_n 3, 1) := by decide +kernel
theorem dL_law_582 : decode cL_law 582 = .ok (.iconst 1, 1) := by decide +kernel
theorem dL_law_583 : decode cL_law 583 = .ok (.iadd, 1) := by decide +kernel
theorem dL_law_584 : decode cL_law 584 = .ok (.iaload, 1) := by decide +kernel
theorem dL_law_585 : decode cL_law 585 = .ok (.ifCond .eq 7, 3) := by decide +kernel
theorem dL_law_588 : decode cL_law 588 = .ok (.iconst 1, 1) := by decide +kernel
theorem dL_law_589 : decode cL_law 589 = .ok (.goto 4, 3) := by decide +kernel
theorem dL_law_592 : decode cL_law 592 = .ok (.iconst 0, 1) := by decide +kernel
theorem dL_law_593 : decode cL_law 593 = .ok (.invokevirtual 72, 3) := by decide +kernel
theorem dL_law_596 : decode cL_law 596 = .ok (.aload_n 2, 1) := by decide +kernel
theorem dL_law_597 : decode cL_law 597 = .ok (.aload_n 0, 1) := by decide +kernel
theorem dL_law_598 : decode cL_law 598 = .ok (.iload_n 3, 1) := by decide +kernel
theorem dL_law_599 : decode cL_law 599 = .ok (.iconst 1, 1) := by decide +kernel
theorem dL_law_600 : decode cL_law 600 = .ok (.iadd, 1) := by decide +kernel
theorem dL_law_601 : decode cL_law 601 = .ok (.iaload, 1) := by decide +kernel
theorem dL_law_602 : decode cL_law 602 = .ok (.ifCond .eq 7, 3) := by decide +kernel
theorem dL_law_605 : decode cL_law 605 = .ok (.iconst 1, 1) := by decide +kernel
theorem dL_law_606 : decode cL_law 606 = .ok (.goto 4, 3) := by decide +kernel
theorem dL_law_609 : decode cL_law 609 = .ok (.iconst 0, 1) := by decide +kernel
theorem dL_law_610 : decode cL_law 610 = .ok (.invokevirtual 76, 3) := by decide +kernel
theorem dL_law_613 : decode cL_law 613 = .ok (.if_icmp .eq 215, 3) := by decide +kernel
theorem dL_law_616 : decode cL_law 616 = .ok (.iconst 0, 1) := by decide +kernel
theorem dL_law_617 : decode cL_law 617 = .ok (.ireturn, 1) := by decide +kernel
theorem dL_law_618 : decode cL_law 618 = .ok (.aload_n 1, 1) := by decide +kernel
theorem dL_law_619 : decode cL_law 619 = .ok (.aload_n 0, 1) := by decide +kernel
theorem dL_law_620 : decode cL_law 620 = .ok (.iload_n 3, 1) := by decide +kernel
theorem dL_law_621 : decode cL_law 621 = .ok (.iconst 1, 1) := by decide +kernel
theorem dL_law_622 : decode cL_law 622 = .ok (.iadd, 1) := by decide +kernel
theorem dL_law_623 : decode cL_law 623 = .ok (.iaload, 1) := by decide +kernel
theorem dL_law_624 : decode cL_law 624 = .ok (.aload_n 0, 1) := by decide +kernel
theorem dL_law_625 : decode cL_law 625 = .ok (.iload_n 3, 1) := by decide +kernel
theorem dL_law_626 : decode cL_law 626 = .ok (.iconst 2, 1) := by decide +kernel
theorem dL_law_627 : decode cL_law 627 = .ok (.iadd, 1) := by decide +kernel
theorem dL_law_628 : decode cL_law 628 = .ok (.iaload, 1) := by decide +kernel
theorem dL_law_629 : decode cL_law 629 = .ok (.ifCond .eq 7, 3) := by decide +kernel
theorem dL_law_632 : decode cL_law 632 = .ok (.iconst 1, 1) := by decide +kernel
theorem dL_law_633 : decode cL_law 633 = .ok (.goto 4, 3) := by decide +kernel
theorem dL_law_636 : decode cL_law 636 = .ok (.iconst 0, 1) := by decide +kernel
theorem dL_law_637 : decode cL_law 637 = .ok (.invokevirtual 77, 3) := by decide +kernel
theorem dL_law_640 : decode cL_law 640 = .ok (.aload_n 2, 1) := by decide +kernel
theorem dL_law_641 : decode cL_law 641 = .ok (.aload_n 0, 1) := by decide +kernel
theorem dL_law_642 : decode cL_law 642 = .ok (.iload_n 3, 1) := by decide +kernel
theorem dL_law_643 : decode cL_law 643 = .ok (.iconst 1, 1) := by decide +kernel
theorem dL_law_644 : decode cL_law 644 = .ok (.iadd, 1) := by decide +kernel
theorem dL_law_645 : decode cL_law 645 = .ok (.iaload, 1) := by decide +kernel
theorem dL_law_646 : decode cL_law 646 = .ok (.aload_n 0, 1) := by decide +kernel
theorem dL_law_647 : decode cL_law 647 = .ok (.iload_n 3, 1) := by decide +kernel
theorem dL_law_648 : decode cL_law 648 = .ok (.iconst 2, 1) := by decide +kernel
theorem dL_law_649 : decode cL_law 649 = .ok (.iadd, 1) := by decide +kernel
theorem dL_law_650 : decode cL_law 650 = .ok (.iaload, 1) := by decide +kernel
theorem dL_law_651 : decode cL_law 651 = .ok (.ifCond .eq 7, 3) := by decide +kernel
theorem dL_law_654 : decode cL_law 654 = .ok (.iconst 1, 1) := by decide +kernel
theorem dL_law_655 : decode cL_law 655 = .ok (.goto 4, 3) := by decide +kernel
theorem dL_law_658 : decode cL_law 658 = .ok (.iconst 0, 1) := by decide +kernel
theorem dL_law_659 : decode cL_law 659 = .ok (.invokevirtual 81, 3) := by decide +kernel
theorem dL_law_662 : decode cL_law 662 = .ok (.if_icmp .eq 166, 3) := by decide +kernel
theorem dL_law_665 : decode cL_law 665 = .ok (.iconst 0, 1) := by decide +kernel
theorem dL_law_666 : decode cL_law 666 = .ok (.ireturn, 1) := by decide +kernel
theorem dL_law_667 : decode cL_law 667 = .ok (.aload_n 1, 1) := by decide +kernel
theorem dL_law_668 : decode cL_law 668 = .ok (.aload_n 0, 1) := by decide +kernel
theorem dL_law_669 : decode cL_law 669 = .ok (.iload_n 3, 1) := by decide +kernel
theorem dL_law_670 : decode cL_law 670 = .ok (.iconst 1, 1) := by decide +kernel
theorem dL_law_671 : decode cL_law 671 = .ok (.iadd, 1) := by decide +kernel
theorem dL_law_672 : decode cL_law 672 = .ok (.iaload, 1) := by decide +kernel
theorem dL_law_673 : decode cL_law 673 = .ok (.aload_n 0, 1) := by decide +kernel
theorem dL_law_674 : decode cL_law 674 = .ok (.iload_n 3, 1) := by decide +kernel
theorem dL_law_675 : decode cL_law 675 = .ok (.iconst 2, 1) := by decide +kernel
theorem dL_law_676 : decode cL_law 676 = .ok (.iadd, 1) := by decide +kernel
theorem dL_law_677 : decode cL_law 677 = .ok (.iaload, 1) := by decide +kernel
theorem dL_law_678 : decode cL_law 678 = .ok (.invokevirtual 82, 3) := by decide +kernel
theorem dL_law_681 : decode cL_law 681 = .ok (.aload_n 2, 1) := by decide +kernel
theorem dL_law_682 : decode cL_law 682 = .ok (.aload_n 0, 1) := by decide +kernel
theorem dL_law_683 : decode cL_law 683 = .ok (.iload_n 3, 1) := by decide +kernel
theorem dL_law_684 : decode cL_law 684 = .ok (.iconst 1, 1) := by decide +kernel
theorem dL_law_685 : decode cL_law 685 = .ok (.iadd, 1) := by decide +kernel
theorem dL_law_686 : decode cL_law 686 = .ok (.iaload, 1) := by decide +kernel
theorem dL_law_687 : decode cL_law 687 = .ok (.aload_n 0, 1) := by decide +kernel
theorem dL_law_688 : decode cL_law 688 = .ok (.iload_n 3, 1) := by decide +kernel
theorem dL_law_689 : decode cL_law 689 = .ok (.iconst 2, 1) := by decide +kernel
theorem dL_law_690 : decode cL_law 690 = .ok (.iadd, 1) := by decide +kernel
theorem dL_law_691 : decode cL_law 691 = .ok (.iaload, 1) := by decide +kernel
theorem dL_law_692 : decode cL_law 692 = .ok (.invokevirtual 85, 3) := by decide +kernel
theorem dL_law_695 : decode cL_law 695 = .ok (.if_icmp .eq 133, 3) := by decide +kernel
theorem dL_law_698 : decode cL_law 698 = .ok (.iconst 0, 1) := by decide +kernel
theorem dL_law_699 : decode cL_law 699 = .ok (.ireturn, 1) := by decide +kernel
theorem dL_law_700 : decode cL_law 700 = .ok (.aload_n 1, 1) := by decide +kernel
theorem dL_law_701 : decode cL_law 701 = .ok (.invokevirtual 86, 3) := by decide +kernel
theorem dL_law_704 : decode cL_law 704 = .ok (.aload_n 2, 1) := by decide +kernel
theorem dL_law_705 : decode cL_law 705 = .ok (.invokevirtual 89, 3) := by decide +kernel
theorem dL_law_708 : decode cL_law 708 = .ok (.if_icmp .eq 120, 3) := by decide +kernel
theorem dL_law_711 : decode cL_law 711 = .ok (.iconst 0, 1) := by decide +kernel
theorem dL_law_712 : decode cL_law 712 = .ok (.ireturn, 1) := by decide +kernel
theorem dL_law_713 : decode cL_law 713 = .ok (.aload_n 1, 1) := by decide +kernel
theorem dL_law_714 : decode cL_law 714 = .ok (.aload_n 0, 1) := by decide +kernel
theorem dL_law_715 : decode cL_law 715 = .ok (.iload_n 3, 1) := by decide +kernel
theorem dL_law_716 : decode cL_law 716 = .ok (.iconst 1, 1) := by decide +kernel
theorem dL_law_717 : decode cL_law 717 = .ok (.iadd, 1) := by decide +kernel
theorem dL_law_718 : decode cL_law 718 = .ok (.iaload, 1) := by decide +kernel
theorem dL_law_719 : decode cL_law 719 = .ok (.aload_n 0, 1) := by decide +kernel
theorem dL_law_720 : decode cL_law 720 = .ok (.iload_n 3, 1) := by decide +kernel
theorem dL_law_721 : decode cL_law 721 = .ok (.iconst 2, 1) := by decide +kernel
theorem dL_law_722 : decode cL_law 722 = .ok (.iadd, 1) := by decide +kernel
theorem dL_law_723 : decode cL_law 723 = .ok (.iaload, 1) := by decide +kernel
theorem dL_law_724 : decode cL_law 724 = .ok (.invokevirtual 90, 3) := by decide +kernel
theorem dL_law_727 : decode cL_law 727 = .ok (.aload_n 2, 1) := by decide +kernel
theorem dL_law_728 : decode cL_law 728 = .ok (.aload_n 0, 1) := by decide +kernel
theorem dL_law_729 : decode cL_law 729 = .ok (.iload_n 3, 1) := by decide +kernel
theorem dL_law_730 : decode cL_law 730 = .ok (.iconst 1, 1) := by decide +kernel
theorem dL_law_731 : decode cL_law 731 = .ok (.iadd, 1) := by decide +kernel
theorem dL_law_732 : decode cL_law 732 = .ok (.iaload, 1) := by decide +kernel
theorem dL_law_733 : decode cL_law 733 = .ok (.aload_n 0, 1) := by decide +kernel
theorem dL_law_734 : decode cL_law 734 = .ok (.iload_n 3, 1) := by decide +kernel
theorem dL_law_735 : decode cL_law 735 = .ok (.iconst 2, 1) := by decide +kernel
theorem dL_law_736 : decode cL_law 736 = .ok (.iadd, 1) := by decide +kernel
theorem dL_law_737 : decode cL_law 737 = .ok (.iaload, 1) := by decide +kernel
theorem dL_law_738 : decode cL_law 738 = .ok (.invokevirtual 93, 3) := by decide +kernel
theorem dL_law_741 : decode cL_law 741 = .ok (.if_icmp .eq 87, 3) := by decide +kernel
theorem dL_law_744 : decode cL_law 744 = .ok (.iconst 0, 1) := by decide +kernel
theorem dL_law_745 : decode cL_law 745 = .ok (.ireturn, 1) := by decide +kernel
theorem dL_law_746 : decode cL_law 746 = .ok (.aload_n 1, 1) := by decide +kernel
theorem dL_law_747 : decode cL_law 747 = .ok (.invokevirtual 94, 3) := by decide +kernel
theorem dL_law_750 : decode cL_law 750 = .ok (.aload_n 2, 1) := by decide +kernel
theorem dL_law_751 : decode cL_law 751 = .ok (.invokevirtual 97, 3) := by decide +kernel
theorem dL_law_754 : decode cL_law 754 = .ok (.if_icmp .eq 74, 3) := by decide +kernel
theorem dL_law_757 : decode cL_law 757 = .ok (.iconst 0, 1) := by decide +kernel
theorem dL_law_758 : decode cL_law 758 = .ok (.ireturn, 1) := by decide +kernel
theorem dL_law_759 : decode cL_law 759 = .ok (.aload_n 1, 1) := by decide +kernel
theorem dL_law_760 : decode cL_law 760 = .ok (.aload_n 0, 1) := by decide +kernel
theorem dL_law_761 : decode cL_law 761 = .ok (.iload_n 3, 1) := by decide +kernel
theorem dL_law_762 : decode cL_law 762 = .ok (.iconst 1, 1) := by decide +kernel
theorem dL_law_763 : decode cL_law 763 = .ok (.iadd, 1) := by decide +kernel
theorem dL_law_764 : decode cL_law 764 = .ok (.iaload, 1) := by decide +kernel
theorem dL_law_765 : decode cL_law 765 = .ok (.invokevirtual 98, 3) := by decide +kernel
theorem dL_law_768 : decode cL_law 768 = .ok (.aload_n 2, 1) := by decide +kernel
theorem dL_law_769 : decode cL_law 769 = .ok (.aload_n 0, 1) := by decide +kernel
theorem dL_law_770 : decode cL_law 770 = .ok (.iload_n 3, 1) := by decide +kernel
theorem dL_law_771 : decode cL_law 771 = .ok (.iconst 1, 1) := by decide +kernel
theorem dL_law_772 : decode cL_law 772 = .ok (.iadd, 1) := by decide +kernel
theorem dL_law_773 : decode cL_law 773 = .ok (.iaload, 1) := by decide +kernel
theorem dL_law_774 : decode cL_law 774 = .ok (.invokevirtual 101, 3) := by decide +kernel
theorem dL_law_777 : decode cL_law 777 = .ok (.if_icmp .eq 51, 3) := by decide +kernel
theorem dL_law_780 : decode cL_law 780 = .ok (.iconst 0, 1) := by decide +kernel
theorem dL_law_781 : decode cL_law 781 = .ok (.ireturn, 1) := by decide +kernel
theorem dL_law_782 : decode cL_law 782 = .ok (.aload_n 1, 1) := by decide +kernel
theorem dL_law_783 : decode cL_law 783 = .ok (.aload_n 0, 1) := by decide +kernel
theorem dL_law_784 : decode cL_law 784 = .ok (.iload_n 3, 1) := by decide +kernel
theorem dL_law_785 : decode cL_law 785 = .ok (.iconst 1, 1) := by decide +kernel
theorem dL_law_786 : decode cL_law 786 = .ok (.iadd, 1) := by decide +kernel
theorem dL_law_787 : decode cL_law 787 = .ok (.iaload, 1) := by decide +kernel
theorem dL_law_788 : decode cL_law 788 = .ok (.invokevirtual 102, 3) := by decide +kernel
theorem dL_law_791 : decode cL_law 791 = .ok (.aload_n 2, 1) := by decide +kernel
theorem dL_law_792 : decode cL_law 792 = .ok (.aload_n 0, 1) := by decide +kernel
theorem dL_law_793 : decode cL_law 793 = .ok (.iload_n 3, 1) := by decide +kernel
theorem dL_law_794 : decode cL_law 794 = .ok (.iconst 1, 1) := by decide +kernel
theorem dL_law_795 : decode cL_law 795 = .ok (.iadd, 1) := by decide +kernel
theorem dL_law_796 : decode cL_law 796 = .ok (.iaload, 1) := by decide +kernel
theorem dL_law_797 : decode cL_law 797 = .ok (.invokevirtual 106, 3) := by decide +kernel
theorem dL_law_800 : decode cL_law 800 = .ok (.if_icmp .eq 28, 3) := by decide +kernel
theorem dL_law_803 : decode cL_law 803 = .ok (.iconst 0, 1) := by decide +kernel
theorem dL_law_804 : decode cL_law 804 = .ok (.ireturn, 1) := by decide +kernel
theorem dL_law_805 : decode cL_law 805 = .ok (.aload_n 1, 1) := by decide +kernel
theorem dL_law_806 : decode cL_law 806 = .ok (.aload_n 0, 1) := by decide +kernel
theorem dL_law_807 : decode cL_law 807 = .ok (.iload_n 3, 1) := by decide +kernel
theorem dL_law_808 : decode cL_law 808 = .ok (.iconst 1, 1) := by decide +kernel
theorem dL_law_809 : decode cL_law 809 = .ok (.iadd, 1) := by decide +kernel
theorem dL_law_810 : decode cL_law 810 = .ok (.iaload, 1) := by decide +kernel
theorem dL_law_811 : decode cL_law 811 = .ok (.invokevirtual 107, 3) := by decide +kernel
theorem dL_law_814 : decode cL_law 814 = .ok (.aload_n 2, 1) := by decide +kernel
theorem dL_law_815 : decode cL_law 815 = .ok (.aload_n 0, 1) := by decide +kernel
theorem dL_law_816 : decode cL_law 816 = .ok (.iload_n 3, 1) := by decide +kernel
theorem dL_law_817 : decode cL_law 817 = .ok (.iconst 1, 1) := by decide +kernel
theorem dL_law_818 : decode cL_law 818 = .ok (.iadd, 1) := by decide +kernel
theorem dL_law_819 : decode cL_law 819 = .ok (.iaload, 1) := by decide +kernel
theorem dL_law_820 : decode cL_law 820 = .ok (.invokevirtual 110, 3) := by decide +kernel
theorem dL_law_823 : decode cL_law 823 = .ok (.if_icmp .eq 5, 3) := by decide +kernel
theorem dL_law_826 : decode cL_law 826 = .ok (.iconst 0, 1) := by decide +kernel
theorem dL_law_827 : decode cL_law 827 = .ok (.ireturn, 1) := by decide +kernel
theorem dL_law_828 : decode cL_law 828 = .ok (.iinc 3 6, 3) := by decide +kernel
theorem dL_law_831 : decode cL_law 831 = .ok (.goto (-813), 3) := by decide +kernel
theorem dL_law_834 : decode cL_law 834 = .ok (.iconst 1, 1) := by decide +kernel
theorem dL_law_835 : decode cL_law 835 = .ok (.ireturn, 1) := by decide +kernel
end
section
/-! rules over ints that are numbers; answers of calls -/
theorem kc_m1 : Int32.ofInt (-1) = (-1) := by decide
theorem kc_0 : Int32.ofInt 0 = nI 0 := by decide
theorem kc_1 : Int32.ofInt 1 = nI 1 := by decide
theorem kc_2 : Int32.ofInt 2 = nI 2 := by decide
theorem kc_3 : Int32.ofInt 3 = nI 3 := by decide
theorem kc_4 : Int32.ofInt 4 = nI 4 := by decide
theorem kc_5 : Int32.ofInt 5 = nI 5 := by decide
def po_i (f : Int32 → ASh → AIn → APt → Prop) : APo := fun r sh I P => ∃ v, r = some v ∧ f v sh I P
def po_v (f : ASh → AIn → APt → Prop) : APo := fun r sh I P => r = none ∧ f sh I P
section AMN
variable {mi : MI} {post : APo} {fr lo c0 s0 pc : Nat} {lv : List (Option Value)} {st : List Value} {sh : ASh} {I : AIn} {P : APt}
theorem am_ki {f : Int32 → ASh → AIn → APt → Prop} {fr lo c0 s0 pc : Nat} (k : ∀ v sh' I' P', f v sh' I' P' → am_R mi post fr lo c0 s0 pc lv (.int v :: st) sh' I' P') : ∀ r sh' I' P', po_i f r sh' I' P' → am_R mi post fr lo c0 s0 pc lv ((r.map Value.int).toList ++ st) sh' I' P' := by
  rintro r sh' I' P' ⟨v, rfl, h⟩
  exact k v sh' I' P' h
theorem am_kv {f : ASh → AIn → APt → Prop} {fr lo c0 s0 pc : Nat} (k : ∀ sh' I' P', f sh' I' P' → am_R mi post fr lo c0 s0 pc lv st sh' I' P') : ∀ r sh' I' P', po_v f r sh' I' P' → am_R mi post fr lo c0 s0 pc lv ((r.map Value.int).toList ++ st) sh' I' P' := by
  rintro r sh' I' P' ⟨rfl, h⟩
  exact k sh' I' P' h
theorem am_mono {post' : APo} (h : am_R mi post fr lo c0 s0 pc lv st sh I P) (hp : ∀ r sh' I' P', post r sh' I' P' → post' r sh' I' P') : am_R mi post' fr lo c0 s0 pc lv st sh I P := by
  intro l p e R s m args below meth c D t A sh0 ad0 ad mc ms H locs cells slots ls C hc hs X T hT XS
  obtain ⟨u, h1, o, h2, h3, ⟨⟨r, ad', sh', I', P', g1, g2, g3⟩, g4⟩, h5⟩ := h l p e R s m args below meth c D t A sh0 ad0 ad mc ms H locs cells slots ls C hc hs X T hT XS
  exact ⟨u, h1, o, h2, h3, ⟨⟨r, ad', sh', I', P', g1, hp r sh' I' P' g2, g3⟩, g4⟩, h5⟩
theorem r_iaddN {a b : Nat} (d : decode mi.2.1 pc = .ok (.iadd, 1)) (k : am_R mi post fr lo c0 s0 (pc + 1) lv (.int (nI (a + b)) :: st) sh I P) : am_R mi post fr lo c0 s0 pc lv (.int (nI b) :: .int (nI a) :: st) sh I P := r_iadd d (by rw [nI_add]; exact k)
theorem r_imulN {a b : Nat} (d : decode mi.2.1 pc = .ok (.imul, 1)) (k : am_R mi post fr lo c0 s0 (pc + 1) lv (.int (nI (a * b)) :: st) sh I P) : am_R mi post fr lo c0 s0 pc lv (.int (nI b) :: .int (nI a) :: st) sh I P := r_imul d (by rw [pk_mul]; exact k)
theorem r_isubN {a b : Nat} (d : decode mi.2.1 pc = .ok (.isub, 1)) (h : b ≤ a) (k : am_R mi post fr lo c0 s0 (pc + 1) lv (.int (nI (a - b)) :: st) sh I P) : am_R mi post fr lo c0 s0 pc lv (.int (nI b) :: .int (nI a) :: st) sh I P := r_isub d (by rw [pk_sub h]; exact k)
theorem r_iincN {j a : Nat} {n : Int} (d : decode mi.2.1 pc = .ok (.iinc j n, 3)) (h : lv[j]? = some (some (.int (nI a)))) (hn : Int32.ofInt n = nI 1) (k : am_R mi post fr lo c0 s0 (pc + 3) (lv.set j (some (.int (nI (a + 1))))) st sh I P) : am_R mi post fr lo c0 s0 pc lv st sh I P := r_iinc d h (by rw [hn, nI_add]) k
theorem r_iincM {j a : Nat} {n : Int} (d : decode mi.2.1 pc = .ok (.iinc j n, 3)) (h : lv[j]? = some (some (.int (nI (a + 1))))) (hn : Int32.ofInt n = -1) (k : am_R mi post fr lo c0 s0 (pc + 3) (lv.set j (some (.int (nI a)))) st sh I P) : am_R mi post fr lo c0 s0 pc lv st sh I P := r_iinc d h (by rw [hn]; exact pk_m1 a) k
theorem r_icmp_eqN {a b : Nat} {off : Int} (tgt : Nat) (d : decode mi.2.1 pc = .ok (.if_icmp .eq off, 3)) (ht : (pc : Int) + off = (tgt : Int)) (ha : a < 2147483648) (hb : b < 2147483648) (k1 : a = b → am_R mi post fr lo c0 s0 tgt lv st sh I P) (k2 : ¬ a = b → am_R mi post fr lo c0 s0 (pc + 3) lv st sh I P) : am_R mi post fr lo c0 s0 pc lv (.int (nI b) :: .int (nI a) :: st) sh I P :=
  r_icmp_eq tgt d ht (fun h => k1 ((nI_eq ha hb).mp h)) (fun h => k2 (fun e => h ((nI_eq ha hb).mpr e)))
theorem r_icmp_neN {a b : Nat} {off : Int} (tgt : Nat) (d : decode mi.2.1 pc = .ok (.if_icmp .ne off, 3)) (ht : (pc : Int) + off = (tgt : Int)) (ha : a < 2147483648) (hb : b < 2147483648) (k1 : ¬ a = b → am_R mi post fr lo c0 s0 tgt lv st sh I P) (k2 : a = b → am_R mi post fr lo c0 s0 (pc + 3) lv st sh I P) : am_R mi post fr lo c0 s0 pc lv (.int (nI b) :: .int (nI a) :: st) sh I P :=
  r_icmp_ne tgt d ht (fun h => k1 (fun e => h ((nI_eq ha hb).mpr e))) (fun h => k2 ((nI_eq ha hb).mp h))
theorem r_icmp_ltN {a b : Nat} {off : Int} (tgt : Nat) (d : decode mi.2.1 pc = .ok (.if_icmp .lt off, 3)) (ht : (pc : Int) + off = (tgt : Int)) (ha : a < 2147483648) (hb : b < 2147483648) (k1 : a < b → am_R mi post fr lo c0 s0 tgt lv st sh I P) (k2 : ¬ a < b → am_R mi post fr lo c0 s0 (pc + 3) lv st sh I P) : am_R mi post fr lo c0 s0 pc lv (.int (nI b) :: .int (nI a) :: st) sh I P :=
  r_icmp_lt tgt d ht (fun h => k1 ((nI_ltI ha hb).mp h)) (fun h => k2 (fun e => h ((nI_ltI ha hb).mpr e)))
theorem r_icmp_geN {a b : Nat} {off : Int} (tgt : Nat) (d : decode mi.2.1 pc = .ok (.if_icmp .ge off, 3)) (ht : (pc : Int) + off = (tgt : Int)) (ha : a < 2147483648) (hb : b < 2147483648) (k1 : b ≤ a → am_R mi post fr lo c0 s0 tgt lv st sh I P) (k2 : ¬ b ≤ a → am_R mi post fr lo c0 s0 (pc + 3) lv st sh I P) : am_R mi post fr lo c0 s0 pc lv (.int (nI b) :: .int (nI a) :: st) sh I P :=
  r_icmp_ge tgt d ht (fun h => k1 ((nI_leI hb ha).mp h)) (fun h => k2 (fun e => h ((nI_leI hb ha).mpr e)))
theorem r_icmp_gtN {a b : Nat} {off : Int} (tgt : Nat) (d : decode mi.2.1 pc = .ok (.if_icmp .gt off, 3)) (ht : (pc : Int) + off = (tgt : Int)) (ha : a < 2147483648) (hb : b < 2147483648) (k1 : b < a → am_R mi post fr lo c0 s0 tgt lv st sh I P) (k2 : ¬ b < a → am_R mi post fr lo c0 s0 (pc + 3) lv st sh I P) : am_R mi post fr lo c0 s0 pc lv (.int (nI b) :: .int (nI a) :: st) sh I P :=
  r_icmp_gt tgt d ht (fun h => k1 ((nI_ltI hb ha).mp h)) (fun h => k2 (fun e => h ((nI_ltI hb ha).mpr e)))
theorem r_icmp_leN {a b : Nat} {off : Int} (tgt : Nat) (d : decode mi.2.1 pc = .ok (.if_icmp .le off, 3)) (ht : (pc : Int) + off = (tgt : Int)) (ha : a < 2147483648) (hb : b < 2147483648) (k1 : a ≤ b → am_R mi post fr lo c0 s0 tgt lv st sh I P) (k2 : ¬ a ≤ b → am_R mi post fr lo c0 s0 (pc + 3) lv st sh I P) : am_R mi post fr lo c0 s0 pc lv (.int (nI b) :: .int (nI a) :: st) sh I P :=
  r_icmp_le tgt d ht (fun h => k1 ((nI_leI ha hb).mp h)) (fun h => k2 (fun e => h ((nI_leI ha hb).mpr e)))
theorem r_if_eqN {a : Nat} {off : Int} (tgt : Nat) (d : decode mi.2.1 pc = .ok (.ifCond .eq off, 3)) (ht : (pc : Int) + off = (tgt : Int)) (ha : a < 2147483648) (k1 : a = 0 → am_R mi post fr lo c0 s0 tgt lv st sh I P) (k2 : ¬ a = 0 → am_R mi post fr lo c0 s0 (pc + 3) lv st sh I P) : am_R mi post fr lo c0 s0 pc lv (.int (nI a) :: st) sh I P :=
  r_if_eq tgt d ht (fun h => k1 ((nI_eq ha (show (0 : Nat) < 2147483648 by decide)).mp h)) (fun h => k2 (fun e => h ((nI_eq ha (show (0 : Nat) < 2147483648 by decide)).mpr e)))
theorem r_if_neN {a : Nat} {off : Int} (tgt : Nat) (d : decode mi.2.1 pc = .ok (.ifCond .ne off, 3)) (ht : (pc : Int) + off = (tgt : Int)) (ha : a < 2147483648) (k1 : ¬ a = 0 → am_R mi post fr lo c0 s0 tgt lv st sh I P) (k2 : a = 0 → am_R mi post fr lo c0 s0 (pc + 3) lv st sh I P) : am_R mi post fr lo c0 s0 pc lv (.int (nI a) :: st) sh I P :=
  r_if_ne tgt d ht (fun h => k1 (fun e => h ((nI_eq ha (show (0 : Nat) < 2147483648 by decide)).mpr e))) (fun h => k2 ((nI_eq ha (show (0 : Nat) < 2147483648 by decide)).mp h))
theorem r_if_ltN {a : Nat} {off : Int} (tgt : Nat) (d : decode mi.2.1 pc = .ok (.ifCond .lt off, 3)) (ht : (pc : Int) + off = (tgt : Int)) (ha : a < 2147483648) (k1 : a < 0 → am_R mi post fr lo c0 s0 tgt lv st sh I P) (k2 : ¬ a < 0 → am_R mi post fr lo c0 s0 (pc + 3) lv st sh I P) : am_R mi post fr lo c0 s0 pc lv (.int (nI a) :: st) sh I P :=
  r_if_lt tgt d ht (fun h => k1 ((nI_ltI ha (show (0 : Nat) < 2147483648 by decide)).mp h)) (fun h => k2 (fun e => h ((nI_ltI ha (show (0 : Nat) < 2147483648 by decide)).mpr e)))
theorem r_if_geN {a : Nat} {off : Int} (tgt : Nat) (d : decode mi.2.1 pc = .ok (.ifCond .ge off, 3)) (ht : (pc : Int) + off = (tgt : Int)) (ha : a < 2147483648) (k1 : 0 ≤ a → am_R mi post fr lo c0 s0 tgt lv st sh I P) (k2 : ¬ 0 ≤ a → am_R mi post fr lo c0 s0 (pc + 3) lv st sh I P) : am_R mi post fr lo c0 s0 pc lv (.int (nI a) :: st) sh I P :=
  r_if_ge tgt d ht (fun h => k1 ((nI_leI (show (0 : Nat) < 2147483648 by decide) ha).mp h)) (fun h => k2 (fun e => h ((nI_leI (show (0 : Nat) < 2147483648 by decide) ha).mpr e)))
theorem r_if_gtN {a : Nat} {off : Int} (tgt : Nat) (d : decode mi.2.1 pc = .ok (.ifCond .gt off, 3)) (ht : (pc : Int) + off = (tgt : Int)) (ha : a < 2147483648) (k1 : 0 < a → am_R mi post fr lo c0 s0 tgt lv st sh I P) (k2 : ¬ 0 < a → am_R mi post fr lo c0 s0 (pc + 3) lv st sh I P) : am_R mi post fr lo c0 s0 pc lv (.int (nI a) :: st) sh I P :=
  r_if_gt tgt d ht (fun h => k1 ((nI_ltI (show (0 : Nat) < 2147483648 by decide) ha).mp h)) (fun h => k2 (fun e => h ((nI_ltI (show (0 : Nat) < 2147483648 by decide) ha).mpr e)))
theorem r_if_leN {a : Nat} {off : Int} (tgt : Nat) (d : decode mi.2.1 pc = .ok (.ifCond .le off, 3)) (ht : (pc : Int) + off = (tgt : Int)) (ha : a < 2147483648) (k1 : a ≤ 0 → am_R mi post fr lo c0 s0 tgt lv st sh I P) (k2 : ¬ a ≤ 0 → am_R mi post fr lo c0 s0 (pc + 3) lv st sh I P) : am_R mi post fr lo c0 s0 pc lv (.int (nI a) :: st) sh I P :=
  r_if_le tgt d ht (fun h => k1 ((nI_leI ha (show (0 : Nat) < 2147483648 by decide)).mp h)) (fun h => k2 (fun e => h ((nI_leI ha (show (0 : Nat) < 2147483648 by decide)).mpr e)))
end AMN
/-! the fixed shape: the reference at 0 .. 47, the system at 60 .. 137 -/
def sh_m : Nat → Option (Nat × Nat) := fun k => match k with
  | 0 => some (1, 9)
  | 1 => some (2, 4)
  | 2 => some (2, 12)
  | 3 => some (2, 480)
  | 4 => some (2, 480)
  | 5 => some (2, 480)
  | 6 => some (2, 4)
  | 7 => some (2, 120)
  | 8 => some (2, 4)
  | 9 => some (2, 160)
  | 10 => some (2, 160)
  | 11 => some (2, 4)
  | 12 => some (2, 480)
  | 13 => some (2, 4)
  | 14 => some (2, 320)
  | 15 => some (2, 4)
  | 16 => some (2, 4)
  | 17 => some (2, 4)
  | 18 => some (2, 4)
  | 19 => some (2, 4)
  | 20 => some (2, 96)
  | 21 => some (2, 4)
  | 22 => some (2, 160)
  | 23 => some (2, 32)
  | 24 => some (2, 4)
  | 25 => some (2, 60)
  | 26 => some (2, 4)
  | 27 => some (2, 640)
  | 29 => some (2, 30)
  | 30 => some (3, 41)
  | 31 => some (2, 41)
  | 32 => some (2, 40)
  | 33 => some (2, 40)
  | 34 => some (2, 40)
  | 35 => some (3, 41)
  | 36 => some (2, 360)
  | 37 => some (2, 360)
  | 41 => some (2, 2)
  | 42 => some (2, 2)
  | 43 => some (2, 40)
  | 44 => some (2, 40)
  | 47 => some (3, 3)
  | _ => none
def pt_m : Nat → Nat → Option Nat := fun k f => match k with
  | 0 => (match f with | 1 => some 1 | 2 => some 2 | 3 => some 3 | 4 => some 4 | 5 => some 5 | 6 => some 6 | 7 => some 7 | 8 => some 8 | 9 => some 9 | 10 => some 10 | 11 => some 11 | 12 => some 12 | 13 => some 13 | 14 => some 14 | 15 => some 15 | 16 => some 16 | 17 => some 17 | 18 => some 18 | 19 => some 19 | 20 => some 20 | 21 => some 21 | 22 => some 22 | 23 => some 23 | 24 => some 24 | 25 => some 25 | 26 => some 26 | 27 => some 27 | 29 => some 29 | 30 => some 30 | 31 => some 31 | 32 => some 32 | 33 => some 33 | 34 => some 34 | 35 => some 35 | 36 => some 36 | 37 => some 37 | 41 => some 41 | 42 => some 42 | 43 => some 43 | 44 => some 44 | 47 => some 47 | _ => none)
  | _ => none
def sh_c : Nat → Option (Nat × Nat) := fun k => match k with
  | 60 => some (1, 8)
  | 61 => some (5, 3)
  | 62 => some (1, 7)
  | 63 => some (2, 40)
  | 64 => some (2, 40)
  | 65 => some (2, 41)
  | 66 => some (1, 0)
  | 67 => some (2, 360)
  | 68 => some (2, 360)
  | 69 => some (2, 360)
  | 70 => some (2, 361)
  | 71 => some (2, 360)
  | 72 => some (2, 360)
  | 73 => some (2, 360)
  | 74 => some (2, 360)
  | 75 => some (2, 360)
  | 76 => some (2, 360)
  | 100 => some (1, 5)
  | 101 => some (4, 3)
  | 102 => some (1, 2)
  | 103 => some (2, 40)
  | 104 => some (2, 40)
  | 105 => some (2, 40)
  | 106 => some (2, 40)
  | 107 => some (1, 2)
  | 108 => some (2, 40)
  | 109 => some (2, 40)
  | 110 => some (2, 40)
  | 111 => some (2, 40)
  | 112 => some (1, 2)
  | 113 => some (2, 40)
  | 114 => some (2, 40)
  | 115 => some (2, 40)
  | 116 => some (2, 40)
  | 117 => some (1, 3)
  | 118 => some (2, 6)
  | 119 => some (1, 1)
  | 120 => some (1, 2)
  | 121 => some (2, 40)
  | 122 => some (2, 40)
  | 123 => some (2, 40)
  | 124 => some (2, 40)
  | 125 => some (2, 40)
  | 126 => some (2, 40)
  | 127 => some (2, 40)
  | 128 => some (2, 80)
  | 129 => some (2, 40)
  | 130 => some (1, 4)
  | 131 => some (2, 24)
  | 132 => some (2, 40)
  | 133 => some (2, 8)
  | 134 => some (1, 3)
  | 135 => some (2, 6)
  | 136 => some (1, 6)
  | 137 => some (2, 160)
  | _ => none
def pt_c : Nat → Nat → Option Nat := fun k f => match k with
  | 60 => (match f with | 0 => some 100 | 1 => some 61 | 2 => some 62 | 3 => some 66 | _ => none)
  | 62 => (match f with | 0 => some 63 | 1 => some 64 | 2 => some 65 | _ => none)
  | 66 => (match f with | 1 => some 67 | 2 => some 68 | 3 => some 69 | 4 => some 70 | 6 => some 71 | 7 => some 72 | 8 => some 73 | 9 => some 74 | 10 => some 75 | 11 => some 76 | _ => none)
  | 100 => (match f with | 1 => some 101 | 2 => some 117 | 3 => some 119 | 4 => some 130 | 6 => some 134 | 7 => some 136 | _ => none)
  | 101 => (match f with | 0 => some 102 | 1 => some 107 | 2 => some 112 | _ => none)
  | 102 => (match f with | 1 => some 103 | 2 => some 104 | 3 => some 105 | 4 => some 106 | _ => none)
  | 107 => (match f with | 1 => some 108 | 2 => some 109 | 3 => some 110 | 4 => some 111 | _ => none)
  | 112 => (match f with | 1 => some 113 | 2 => some 114 | 3 => some 115 | 4 => some 116 | _ => none)
  | 117 => (match f with | 1 => some 118 | _ => none)
  | 119 => (match f with | 1 => some 120 | 3 => some 125 | 4 => some 126 | 5 => some 127 | 7 => some 128 | 8 => some 129 | _ => none)
  | 120 => (match f with | 1 => some 121 | 2 => some 122 | 3 => some 123 | 4 => some 124 | _ => none)
  | 130 => (match f with | 5 => some 131 | 7 => some 132 | 8 => some 133 | _ => none)
  | 134 => (match f with | 1 => some 135 | _ => none)
  | 136 => (match f with | 1 => some 137 | _ => none)
  | _ => none
def St_m (sh : ASh) (P : APt) : Prop := (∀ k q, sh_m k = some q → sh k = q) ∧ ∀ k f z, pt_m k f = some z → P k f = some z
def St_c (sh : ASh) (P : APt) : Prop := (∀ k q, sh_c k = some q → sh k = q) ∧ ∀ k f z, pt_c k f = some z → P k f = some z
end
section
/-! the words of the promises, over the rows of the reference -/
noncomputable def cif {α : Type} (c : Prop) (x y : α) : α := @ite α c (Classical.propDecidable c) x y
theorem cif_t {α : Type} {c : Prop} {x y : α} (h : c) : cif c x y = x := if_pos h
theorem cif_f {α : Type} {c : Prop} {x y : α} (h : ¬ c) : cif c x y = y := if_neg h
def nv (x : Int32) : Nat := x.toNatClampNeg
theorem nv_nI {n : Nat} (h : n < 2147483648) : nv (nI n) = n := nI_clamp h
theorem nv_m1 : nv (-1) = 0 := by decide
def isN (x : Int32) (m : Nat) : Prop := x = nI (nv x) ∧ nv x ≤ m
theorem isN_nI {n m : Nat} (h : n ≤ m) (hm : m < 2147483648) : isN (nI n) m := by
  have e : nv (nI n) = n := nv_nI (by omega)
  exact ⟨by rw [e], by rw [e]; exact h⟩
def inR (x : Int32) (n : Nat) : Prop := ∃ j : Nat, j < n ∧ x = nI j
theorem inR_nI {j n : Nat} (h : j < n) : inR (nI j) n := ⟨j, h, rfl⟩
theorem inR.nv {x : Int32} {n : Nat} (h : inR x n) (hn : n < 2147483648) : x = nI (nv x) ∧ nv x < n := by
  obtain ⟨j, hj, rfl⟩ := h
  rw [nv_nI (by omega)]
  exact ⟨rfl, hj⟩
def mrow (r : Nat) : Bool := (Nat.ble 1 r && Nat.ble r 27) || Nat.beq r 47
def rs (I : AIn) : AIn := fun r => if mrow r = true then I r else fun _ => 0
theorem rs_at {I : AIn} {r : Nat} (h : mrow r = true) : rs I r = I r := if_pos h
theorem rs_up {I : AIn} {r : Nat} {f : Nat → Int32} (h : mrow r = true) : rs (va_up I r f) = va_up (rs I) r f := by
  funext k
  by_cases hk : k = r
  · subst hk
    simp only [rs, va_up, h, if_true]
  · simp only [rs, va_up, hk, if_false]
theorem rs_no {I : AIn} {r : Nat} {f : Nat → Int32} (h : mrow r = false) : rs (va_up I r f) = rs I := by
  funext k
  by_cases hk : k = r
  · subst hk
    simp only [rs, h]
    rfl
  · simp only [rs, va_up, hk, if_false]
def hi (I' I : AIn) : Prop := ∀ r, 48 ≤ r → I' r = I r
theorem hi_rf (I : AIn) : hi I I := fun _ _ => rfl
theorem hi_up {I' I : AIn} {r : Nat} {f : Nat → Int32} (h : hi I' I) (hr : r < 48) : hi (va_up I' r f) I := fun k hk => by
  have : k ≠ r := by omega
  simp only [va_up, this, if_false]
  exact h k hk
def np (σ : AIn) : Nat := nv (σ 1 0)
def sz (σ : AIn) (p : Nat) : Nat := nv (σ 2 p)
def nj (σ : AIn) : Nat := nv (σ 6 0)
def aOk (k : Nat) (a : Int32) : Prop := if k = 0 then (-128 ≤ a ∧ a ≤ nI 127) else if k = 7 ∨ k = 8 ∨ k = 15 then (nI 0 ≤ a ∧ a ≤ nI 7) else if k = 9 ∨ k = 10 then (nI 0 ≤ a ∧ a ≤ nI 39) else a = 0
def hasA (k : Nat) : Prop := k = 0 ∨ k = 7 ∨ k = 8 ∨ k = 9 ∨ k = 10 ∨ k = 15
def isLs (k : Nat) : Prop := k = 9 ∨ k = 10 ∨ k = 13
def fgt (σ : AIn) (q : Nat) : AIn := va_up σ 5 (fun j => if 40 * q ≤ j ∧ j < 40 * q + 40 then 0 else σ 5 j)
def led (σ : AIn) (p t : Nat) : Prop := ∃ k, k < sz σ p ∧ (σ 3 (40 * p + k) = nI 9 ∨ σ 3 (40 * p + k) = nI 10) ∧ σ 4 (40 * p + k) = nI t
/-! a row of kinds at a place z of a row f of the rows: its number, then its kinds, 0 behind -/
def jOk (f : Nat → Int32) (z : Nat) : Prop := (2 ≤ nv (f z) ∧ isN (f z) 4) ∧ (∀ i, i < nv (f z) → isN (f (z + 1 + i)) 15 ∧ (i + 1 < nv (f z) → ¬ isLs (nv (f (z + 1 + i))))) ∧ ∀ i, nv (f z) ≤ i → i < 4 → f (z + 1 + i) = nI 0
def jEq (f : Nat → Int32) (z w : Nat) : Prop := ∀ i, i < 5 → f (z + i) = f (w + i)
/-! what holds of the rows of one block -/
def iP (σ : AIn) : Prop := isN (σ 1 0) 3 ∧ (∀ p, p < 3 → isN (σ 2 p) 40) ∧ (∀ p k, p < 3 → k < sz σ p → isN (σ 3 (40 * p + k)) 15 ∧ aOk (nv (σ 3 (40 * p + k))) (σ 4 (40 * p + k))) ∧ ∀ j, j < 120 → isN (σ 5 j) 20000
def iJ (σ : AIn) : Prop := isN (σ 6 0) 6 ∧ (∀ j, j < nj σ → jOk (σ 7) (5 * j)) ∧ ∀ i j, i < nj σ → j < nj σ → jEq (σ 7) (5 * i) (5 * j) → i = j
def iK (σ : AIn) : Prop := σ 11 0 = -1 ∨ (isN (σ 11 0) 40 ∧ isN (σ 8 0) 40 ∧ isN (σ 13 0) 80 ∧ (∀ k, k < nv (σ 8 0) → isN (σ 9 k) 15 ∧ aOk (nv (σ 9 k)) (σ 10 k)) ∧ (∀ k, k < nv (σ 11 0) → isN (σ 12 (3 * k + 1)) 39 ∧ nv (σ 12 (3 * k + 1)) < nv (σ 8 0)))
def iR (σ : AIn) : Prop := σ 15 0 = -1 ∨ (isN (σ 15 0) 3 ∧ isN (σ 19 0) 24 ∧ isN (σ 21 0) 40)
def iC (σ : AIn) : Prop := σ 24 0 = -1 ∨ (isN (σ 24 0) 2 ∧ (∀ j, j < nv (σ 24 0) → jOk (σ 25) (5 * j)) ∧ ∀ i j, i < nv (σ 24 0) → j < nv (σ 24 0) → jEq (σ 25) (5 * i) (5 * j) → i = j)
def iT (σ : AIn) : Prop := isN (σ 26 0) 160 ∧ ∀ k, k < nv (σ 26 0) → isN (σ 27 k) 255
def Inv (σ : AIn) : Prop := iP σ ∧ iJ σ ∧ iK σ ∧ iR σ ∧ iC σ ∧ iT σ
/-! each call's answer, and the rows behind it -/
noncomputable def p_res (σ : AIn) : Int32 := cif (np σ = 3) (-1) (nI (np σ))
noncomputable def p_op (σ : AIn) : AIn := cif (np σ = 3) σ (fgt (va_up (va_up σ 1 (upd (σ 1) 0 (nI (np σ + 1)))) 2 (upd (σ 2) (np σ) (nI 0))) (np σ))
def o_c (σ : AIn) (p k a : Int32) : Prop := inR p (np σ) ∧ inR k 16 ∧ aOk (nv k) a ∧ sz σ (nv p) < 40
noncomputable def o_res (σ : AIn) (p k a : Int32) : Int32 := cif (o_c σ p k a) (nI (sz σ (nv p))) (-1)
noncomputable def o_op (σ : AIn) (p k a : Int32) : AIn := cif (o_c σ p k a) (fgt (va_up (va_up (va_up σ 3 (upd (σ 3) (40 * nv p + sz σ (nv p)) k)) 4 (upd (σ 4) (40 * nv p + sz σ (nv p)) a)) 2 (upd (σ 2) (nv p) (nI (sz σ (nv p) + 1)))) (nv p)) σ
def c_c (σ : AIn) (p x a : Int32) : Prop := inR p (np σ) ∧ inR x (sz σ (nv p)) ∧ hasA (nv (σ 3 (40 * nv p + nv x))) ∧ aOk (nv (σ 3 (40 * nv p + nv x))) a
noncomputable def c_res (σ : AIn) (p x a : Int32) : Int32 := cif (c_c σ p x a) (nI 1) (nI 0)
noncomputable def c_op (σ : AIn) (p x a : Int32) : AIn := cif (c_c σ p x a) (fgt (va_up σ 4 (upd (σ 4) (40 * nv p + nv x) a)) (nv p)) σ
noncomputable def t_res (σ : AIn) (p x w : Int32) : Int32 := cif (inR p (np σ) ∧ inR x (sz σ (nv p))) (if w = nI 0 then σ 3 (40 * nv p + nv x) else if w = nI 1 then σ 4 (40 * nv p + nv x) else if w = nI 2 then σ 5 (40 * nv p + nv x) else if w = nI 3 then cif (led σ (nv p) (nv x)) (nI 1) (nI 0) else (-1)) (-1)
def j_can (σ : AIn) (n a b c d : Int32) : Prop := (2 ≤ nv n ∧ inR n 5) ∧ inR a 16 ∧ inR b 16 ∧ (3 ≤ nv n → inR c 16) ∧ (4 ≤ nv n → inR d 16) ∧ nj σ < 6 ∧ ¬ isLs (nv a) ∧ (3 ≤ nv n → ¬ isLs (nv b)) ∧ (4 ≤ nv n → ¬ isLs (nv c))
def j_row (σ : AIn) (n a b c d : Int32) : Nat → Int32 := upd (upd (upd (upd (upd (σ 7) (5 * nj σ) n) (5 * nj σ + 1) a) (5 * nj σ + 2) b) (5 * nj σ + 3) (if 3 ≤ nv n then c else nI 0)) (5 * nj σ + 4) (if 4 ≤ nv n then d else nI 0)
def j_dup (σ : AIn) (n a b c d : Int32) : Prop := ∃ j, j < nj σ ∧ jEq (j_row σ n a b c d) (5 * j) (5 * nj σ)
noncomputable def j_res (σ : AIn) (n a b c d : Int32) : Int32 := cif (j_can σ n a b c d ∧ ¬ j_dup σ n a b c d) (nI (nj σ)) (-1)
noncomputable def j_op (σ : AIn) (n a b c d : Int32) : AIn := cif (j_can σ n a b c d) (cif (j_dup σ n a b c d) (va_up σ 7 (j_row σ n a b c d)) (va_up (va_up σ 7 (j_row σ n a b c d)) 6 (upd (σ 6) 0 (nI (nj σ + 1))))) σ
def pt_op (σ : AIn) : AIn := va_up σ 6 (upd (σ 6) 0 (nI 0))
noncomputable def jd_res (σ : AIn) (x y : Int32) : Int32 := cif (inR x (nj σ) ∧ inR y (nv (σ 7 (5 * nv x)))) (σ 7 (5 * nv x + 1 + nv y)) (-1)
noncomputable def cd_res (σ : AIn) (x y : Int32) : Int32 := cif (inR x (nv (σ 11 0)) ∧ inR y 3) (σ 12 (3 * nv x + nv y)) (-1)
noncomputable def by_res (σ : AIn) (x : Int32) : Int32 := cif (σ 11 0 ≠ -1 ∧ inR x (nv (σ 13 0))) (σ 14 (nv x)) (-1)
def ra_res (σ : AIn) (w : Int32) : Int32 := if σ 15 0 = -1 then -1 else if w = nI 0 then σ 16 0 else if w = nI 1 then σ 17 0 else if w = nI 2 then σ 19 0 else if w = nI 3 then σ 21 0 else if w = nI 4 then σ 18 0 else -1
noncomputable def ha_res (σ : AIn) (w x : Int32) : Int32 := if σ 15 0 = -1 then nI 0 else if w = nI 0 then cif (inR x (nv (σ 19 0))) (σ 20 (nv x)) (nI 0) else if w = nI 1 then cif (inR x (nv (σ 21 0))) (σ 22 (nv x)) (nI 0) else if w = nI 2 then cif (inR x 8) (σ 23 (nv x)) (nI 0) else nI 0
noncomputable def ch_res (σ : AIn) (x y : Int32) : Int32 := cif (inR x (nv (σ 24 0)) ∧ inR y (nv (σ 25 (5 * nv x)))) (σ 25 (5 * nv x + 1 + nv y)) (-1)
def tk_res (σ : AIn) : Int32 := σ 24 0
def tk_op (σ : AIn) : AIn := if σ 24 0 = -1 then σ else va_up (va_up σ 6 (upd (σ 6) 0 (σ 24 0))) 7 (fun j => if j < 5 * nv (σ 24 0) then σ 25 j else σ 7 j)
def fe_c (σ : AIn) (n : Int32) : Prop := (1 ≤ nv n ∧ inR n 5) ∧ nv (σ 26 0) + nv n ≤ 160
def fe_b (x : Int32) (i : Nat) : Int32 := (x >>> ((nI 24 - nI 8 * nI i) &&& 31)) &&& nI 255
noncomputable def fe_res (σ : AIn) (x n : Int32) : Int32 := cif (fe_c σ n) (nI (nv (σ 26 0) + nv n)) (-1)
noncomputable def fe_op (σ : AIn) (x n : Int32) : AIn := cif (fe_c σ n) (va_up (va_up σ 27 (fun j => if nv (σ 26 0) ≤ j ∧ j < nv (σ 26 0) + nv n then fe_b x (j - nv (σ 26 0)) else σ 27 j)) 26 (upd (σ 26) 0 (nI (nv (σ 26 0) + nv n)))) σ
noncomputable def cn_res (σ : AIn) (w : Int32) : Int32 := if w = nI 0 then σ 1 0 else if w = nI 1 then σ 6 0 else if w = nI 2 then σ 11 0 else if w = nI 3 then (if σ 11 0 = -1 then -1 else σ 13 0) else if w = nI 4 then (if σ 24 0 = -1 then nI 0 else σ 24 0) else if w = nI 5 then σ 26 0 else cif (∃ j, j < np σ ∧ w = nI (10 + j)) (σ 2 (nv w - 10)) (-1)
def bl (r : Nat) : Nat := match r with
  | 1 => 1 | 2 => 3 | 3 => 120 | 4 => 120 | 5 => 120 | 6 => 1 | 7 => 30 | 8 => 1 | 9 => 40 | 10 => 40 | 11 => 1 | 12 => 120 | 13 => 1 | 14 => 80 | 15 => 1 | 16 => 1 | 17 => 1 | 18 => 1 | 19 => 1 | 20 => 24 | 21 => 1 | 22 => 40 | 23 => 8 | 24 => 1 | 25 => 15 | 26 => 1 | 27 => 160
  | _ => 0
/-- block a comes into the stead of block b -/
def cpB (σ : AIn) (a b : Nat) : AIn := fun r => va_cpy (σ r) (σ r) (bl r * a) (bl r * b) (bl r)
def bk (σ : AIn) (b : Nat) : AIn := fun r i => σ r (bl r * b + i)
noncomputable def im_res (k : Int32) : Int32 := cif (inR k 3) (nI 1) (nI 0)
noncomputable def im_op (σ : AIn) (k : Int32) : AIn := cif (inR k 3) (va_up (cpB σ 0 (nv k + 1)) 47 (upd (σ 47) (nv k) (nI 1))) σ
def ag_c (σ : AIn) (k : Int32) : Prop := inR k 3 ∧ σ 47 (nv k) ≠ 0
noncomputable def ag_res (σ : AIn) (k : Int32) : Int32 := cif (ag_c σ k) (nI 1) (nI 0)
noncomputable def ag_op (σ : AIn) (k : Int32) : AIn := cif (ag_c σ k) (cpB σ (nv k + 1) 0) σ
end
section
/-! the reference: small methods -/
def bo (r : Int32) (c : Prop) : Prop := (c ∧ r = nI 1) ∨ (¬ c ∧ r = nI 0)
theorem bo.t {r : Int32} {c : Prop} (h : bo r c) (h0 : ¬ r = 0) : c := by
  rcases h with h | h
  · exact h.1
  · exact absurd h.2 h0
theorem bo.f {r : Int32} {c : Prop} (h : bo r c) (h0 : r = 0) : ¬ c := by
  rcases h with h | h
  · rw [h.2] at h0
    exact absurd h0 (by decide)
  · exact h.1
theorem bo.nar {r : Int32} {c : Prop} (h : bo r c) : narrow .boolean (.int r) = .int r := by
  rcases h with ⟨_, rfl⟩ | ⟨_, rfl⟩ <;> decide
theorem bo.of {r : Int32} {c c' : Prop} (h : bo r c) (e : c ↔ c') : bo r c' := by
  rcases h with ⟨a, b⟩ | ⟨a, b⟩
  · exact Or.inl ⟨e.mp a, b⟩
  · exact Or.inr ⟨fun z => a (e.mpr z), b⟩
theorem bo_1 {c : Prop} (h : c) : bo (nI 1) c := Or.inl ⟨h, rfl⟩
theorem bo_0 {c : Prop} (h : ¬ c) : bo (nI 0) c := Or.inr ⟨h, rfl⟩
/-- an int between 0 and a number -/
theorem in_iff {x : Int32} {n : Nat} (hn : n < 2147483648) : (nI 0 ≤ x ∧ x ≤ nI n) ↔ ∃ j : Nat, j ≤ n ∧ x = nI j := by
  constructor
  · rintro ⟨h1, h2⟩
    have h0 : ¬ x < 0 := by
      rw [nI_0] at h1
      exact Int32.not_lt.mpr h1
    obtain ⟨j, hj, rfl⟩ := nI_of h0
    exact ⟨j, (nI_leI hj hn).mp h2, rfl⟩
  · rintro ⟨j, hj, rfl⟩
    exact ⟨nI_le (Nat.zero_le _) (by omega), nI_le hj hn⟩
theorem in_iff1 {x : Int32} {n : Nat} (hn : n < 2147483648) : (nI 0 ≤ x ∧ x ≤ nI n - nI 1) ↔ ∃ j : Nat, j < n ∧ x = nI j := by
  rcases Nat.eq_zero_or_pos n with rfl | h
  · constructor
    · rintro ⟨h1, h2⟩
      exfalso
      have h3 : nI 0 - nI 1 = -1 := by decide
      rw [h3] at h2
      have h4 := Int32.le_trans h1 h2
      exact absurd h4 (by decide)
    · rintro ⟨j, hj, -⟩
      omega
  · rw [pk_sub h, in_iff (by omega)]
    constructor
    · rintro ⟨j, hj, rfl⟩
      exact ⟨j, by omega, rfl⟩
    · rintro ⟨j, hj, rfl⟩
      exact ⟨j, by omega, rfl⟩
section M1
variable {sh : ASh} {I : AIn} {P : APt}
theorem c_X11_in (x y z : Int32) : am_R mX11_in (po_i (fun v sh' I' P' => bo v (y ≤ x ∧ x ≤ z) ∧ sh = sh' ∧ I = I' ∧ P = P')) 0 0 0 0 0 [some (.int x), some (.int y), some (.int z)] [] sh I P := by
  refine r_iload_n dX11_in_0 rfl ?_
  refine r_iload_n dX11_in_1 rfl ?_
  refine r_icmp_lt 14 dX11_in_2 (by decide) (fun h2 => ?_) (fun h2 => ?_)
  · have hf : ¬ (y ≤ x ∧ x ≤ z) := fun h => absurd h2 (Int32.not_lt.mpr h.1)
    refine r_iconst dX11_in_14 (v := nI 0) kc_0 ?_
    refine r_ireturn dX11_in_15 .boolean rfl (by decide) ?_
    first | exact ⟨_, rfl, bo_1 ht, rfl, rfl, rfl⟩ | exact ⟨_, rfl, bo_0 hf, rfl, rfl, rfl⟩
  · refine r_iload_n dX11_in_5 rfl ?_
    refine r_iload_n dX11_in_6 rfl ?_
    refine r_icmp_gt 14 dX11_in_7 (by decide) (fun h7 => ?_) (fun h7 => ?_)
    · have hf : ¬ (y ≤ x ∧ x ≤ z) := fun h => absurd h7 (Int32.not_lt.mpr h.2)
      refine r_iconst dX11_in_14 (v := nI 0) kc_0 ?_
      refine r_ireturn dX11_in_15 .boolean rfl (by decide) ?_
      first | exact ⟨_, rfl, bo_1 ht, rfl, rfl, rfl⟩ | exact ⟨_, rfl, bo_0 hf, rfl, rfl, rfl⟩
    · have ht : y ≤ x ∧ x ≤ z := ⟨Int32.not_lt.mp h2, Int32.not_lt.mp h7⟩
      refine r_iconst dX11_in_10 (v := nI 1) kc_1 ?_
      refine r_goto 15 dX11_in_11 (by decide) ?_
      refine r_ireturn dX11_in_15 .boolean rfl (by decide) ?_
      first | exact ⟨_, rfl, bo_1 ht, rfl, rfl, rfl⟩ | exact ⟨_, rfl, bo_0 hf, rfl, rfl, rfl⟩
theorem c_X11_isProgram (S : St_m sh P) (x : Int32) {np : Nat} (hn : I 1 0 = nI np) (hnp : np ≤ 3) : am_R mX11_isProgram (po_i (fun v sh' I' P' => bo v (∃ j : Nat, j < np ∧ x = nI j) ∧ sh = sh' ∧ I = I' ∧ P = P')) 1 22 0 0 0 [some (.ref 0), some (.int x)] [] sh I P := by
  refine r_iload_n dX11_isProgram_0 rfl ?_
  refine r_iconst dX11_isProgram_1 (v := nI 0) kc_0 ?_
  refine r_aload_n dX11_isProgram_2 rfl ?_
  refine r_getP dX11_isProgram_3 g_X11_7 (S.1 _ _ rfl) rfl (S.2 _ _ _ rfl) ?_
  refine r_iconst dX11_isProgram_6 (v := nI 0) kc_0 ?_
  refine r_iaload _ dX11_isProgram_7 (S.1 _ _ rfl) rfl (by first | decide | omega) (by decide) ?_
  rw [hn]
  refine r_iconst dX11_isProgram_8 (v := nI 1) kc_1 ?_
  refine r_isub dX11_isProgram_9 ?_
  refine r_callS3 (fr' := 0) (lo' := 0) (mc' := 0) (ms' := 0) dX11_isProgram_10 mm_X11_in ms_X11_in l_X11_142 (by decide) ⟨by decide, by decide⟩ (Nat.zero_le _) (Nat.zero_le _) (Nat.le_of_ble_eq_true rfl) (c_X11_in _ _ _) (am_ki ?_)
  rintro v10 _ _ _ ⟨hb10, rfl, rfl, rfl⟩
  refine r_ireturn dX11_isProgram_13 .boolean rfl hb10.nar ?_
  exact ⟨_, rfl, hb10.of (in_iff1 (by omega)), rfl, rfl, rfl⟩
theorem c_X11_hasArgument {k : Nat} (hk : k < 16) : am_R mX11_hasArgument (po_i (fun v sh' I' P' => bo v (hasA k) ∧ sh = sh' ∧ I = I' ∧ P = P')) 0 0 0 0 0 [some (.int (nI k))] [] sh I P := by
  refine r_iload_n dX11_hasArgument_0 rfl ?_
  first | refine r_if_eqN 34 dX11_hasArgument_1 (by decide) (by omega) (fun h1 => ?_) (fun h1 => ?_) | refine r_if_eq 34 dX11_hasArgument_1 (by decide) (fun h1 => ?_) (fun h1 => ?_)
  · refine r_iconst dX11_hasArgument_34 (v := nI 1) kc_1 ?_
    refine r_goto 39 dX11_hasArgument_35 (by decide) ?_
    refine r_ireturn dX11_hasArgument_39 .boolean rfl (by decide) ?_
    first | exact ⟨_, rfl, bo_1 (by unfold hasA; omega), rfl, rfl, rfl⟩ | exact ⟨_, rfl, bo_0 (by unfold hasA; omega), rfl, rfl, rfl⟩
  · refine r_iload_n dX11_hasArgument_4 rfl ?_
    refine r_bipush dX11_hasArgument_5 (v := nI 7) (by decide) ?_
    first | refine r_icmp_eqN 34 dX11_hasArgument_7 (by decide) (by omega) (by omega) (fun h7 => ?_) (fun h7 => ?_) | refine r_icmp_eq 34 dX11_hasArgument_7 (by decide) (fun h7 => ?_) (fun h7 => ?_)
    · refine r_iconst dX11_hasArgument_34 (v := nI 1) kc_1 ?_
      refine r_goto 39 dX11_hasArgument_35 (by decide) ?_
      refine r_ireturn dX11_hasArgument_39 .boolean rfl (by decide) ?_
      first | exact ⟨_, rfl, bo_1 (by unfold hasA; omega), rfl, rfl, rfl⟩ | exact ⟨_, rfl, bo_0 (by unfold hasA; omega), rfl, rfl, rfl⟩
    · refine r_iload_n dX11_hasArgument_10 rfl ?_
      refine r_bipush dX11_hasArgument_11 (v := nI 8) (by decide) ?_
      first | refine r_icmp_eqN 34 dX11_hasArgument_13 (by decide) (by omega) (by omega) (fun h13 => ?_) (fun h13 => ?_) | refine r_icmp_eq 34 dX11_hasArgument_13 (by decide) (fun h13 => ?_) (fun h13 => ?_)
      · refine r_iconst dX11_hasArgument_34 (v := nI 1) kc_1 ?_
        refine r_goto 39 dX11_hasArgument_35 (by decide) ?_
        refine r_ireturn dX11_hasArgument_39 .boolean rfl (by decide) ?_
        first | exact ⟨_, rfl, bo_1 (by unfold hasA; omega), rfl, rfl, rfl⟩ | exact ⟨_, rfl, bo_0 (by unfold hasA; omega), rfl, rfl, rfl⟩
      · refine r_iload_n dX11_hasArgument_16 rfl ?_
        refine r_bipush dX11_hasArgument_17 (v := nI 9) (by decide) ?_
        first | refine r_icmp_eqN 34 dX11_hasArgument_19 (by decide) (by omega) (by omega) (fun h19 => ?_) (fun h19 => ?_) | refine r_icmp_eq 34 dX11_hasArgument_19 (by decide) (fun h19 => ?_) (fun h19 => ?_)
        · refine r_iconst dX11_hasArgument_34 (v := nI 1) kc_1 ?_
          refine r_goto 39 dX11_hasArgument_35 (by decide) ?_
          refine r_ireturn dX11_hasArgument_39 .boolean rfl (by decide) ?_
          first | exact ⟨_, rfl, bo_1 (by unfold hasA; omega), rfl, rfl, rfl⟩ | exact ⟨_, rfl, bo_0 (by unfold hasA; omega), rfl, rfl, rfl⟩
        · refine r_iload_n dX11_hasArgument_22 rfl ?_
          refine r_bipush dX11_hasArgument_23 (v := nI 10) (by decide) ?_
          first | refine r_icmp_eqN 34 dX11_hasArgument_25 (by decide) (by omega) (by omega) (fun h25 => ?_) (fun h25 => ?_) | refine r_icmp_eq 34 dX11_hasArgument_25 (by decide) (fun h25 => ?_) (fun h25 => ?_)
          · refine r_iconst dX11_hasArgument_34 (v := nI 1) kc_1 ?_
            refine r_goto 39 dX11_hasArgument_35 (by decide) ?_
            refine r_ireturn dX11_hasArgument_39 .boolean rfl (by decide) ?_
            first | exact ⟨_, rfl, bo_1 (by unfold hasA; omega), rfl, rfl, rfl⟩ | exact ⟨_, rfl, bo_0 (by unfold hasA; omega), rfl, rfl, rfl⟩
          · refine r_iload_n dX11_hasArgument_28 rfl ?_
            refine r_bipush dX11_hasArgument_29 (v := nI 15) (by decide) ?_
            first | refine r_icmp_neN 38 dX11_hasArgument_31 (by decide) (by omega) (by omega) (fun h31 => ?_) (fun h31 => ?_) | refine r_icmp_ne 38 dX11_hasArgument_31 (by decide) (fun h31 => ?_) (fun h31 => ?_)
            · refine r_iconst dX11_hasArgument_38 (v := nI 0) kc_0 ?_
              refine r_ireturn dX11_hasArgument_39 .boolean rfl (by decide) ?_
              first | exact ⟨_, rfl, bo_1 (by unfold hasA; omega), rfl, rfl, rfl⟩ | exact ⟨_, rfl, bo_0 (by unfold hasA; omega), rfl, rfl, rfl⟩
            · refine r_iconst dX11_hasArgument_34 (v := nI 1) kc_1 ?_
              refine r_goto 39 dX11_hasArgument_35 (by decide) ?_
              refine r_ireturn dX11_hasArgument_39 .boolean rfl (by decide) ?_
              first | exact ⟨_, rfl, bo_1 (by unfold hasA; omega), rfl, rfl, rfl⟩ | exact ⟨_, rfl, bo_0 (by unfold hasA; omega), rfl, rfl, rfl⟩
theorem c_X11_isLast {k : Nat} (hk : k < 16) : am_R mX11_isLast (po_i (fun v sh' I' P' => bo v (isLs k) ∧ sh = sh' ∧ I = I' ∧ P = P')) 0 0 0 0 0 [some (.int (nI k))] [] sh I P := by
  refine r_iload_n dX11_isLast_0 rfl ?_
  refine r_bipush dX11_isLast_1 (v := nI 9) (by decide) ?_
  first | refine r_icmp_eqN 18 dX11_isLast_3 (by decide) (by omega) (by omega) (fun h3 => ?_) (fun h3 => ?_) | refine r_icmp_eq 18 dX11_isLast_3 (by decide) (fun h3 => ?_) (fun h3 => ?_)
  · refine r_iconst dX11_isLast_18 (v := nI 1) kc_1 ?_
    refine r_goto 23 dX11_isLast_19 (by decide) ?_
    refine r_ireturn dX11_isLast_23 .boolean rfl (by decide) ?_
    first | exact ⟨_, rfl, bo_1 (by unfold isLs; omega), rfl, rfl, rfl⟩ | exact ⟨_, rfl, bo_0 (by unfold isLs; omega), rfl, rfl, rfl⟩
  · refine r_iload_n dX11_isLast_6 rfl ?_
    refine r_bipush dX11_isLast_7 (v := nI 10) (by decide) ?_
    first | refine r_icmp_eqN 18 dX11_isLast_9 (by decide) (by omega) (by omega) (fun h9 => ?_) (fun h9 => ?_) | refine r_icmp_eq 18 dX11_isLast_9 (by decide) (fun h9 => ?_) (fun h9 => ?_)
    · refine r_iconst dX11_isLast_18 (v := nI 1) kc_1 ?_
      refine r_goto 23 dX11_isLast_19 (by decide) ?_
      refine r_ireturn dX11_isLast_23 .boolean rfl (by decide) ?_
      first | exact ⟨_, rfl, bo_1 (by unfold isLs; omega), rfl, rfl, rfl⟩ | exact ⟨_, rfl, bo_0 (by unfold isLs; omega), rfl, rfl, rfl⟩
    · refine r_iload_n dX11_isLast_12 rfl ?_
      refine r_bipush dX11_isLast_13 (v := nI 13) (by decide) ?_
      first | refine r_icmp_neN 22 dX11_isLast_15 (by decide) (by omega) (by omega) (fun h15 => ?_) (fun h15 => ?_) | refine r_icmp_ne 22 dX11_isLast_15 (by decide) (fun h15 => ?_) (fun h15 => ?_)
      · refine r_iconst dX11_isLast_22 (v := nI 0) kc_0 ?_
        refine r_ireturn dX11_isLast_23 .boolean rfl (by decide) ?_
        first | exact ⟨_, rfl, bo_1 (by unfold isLs; omega), rfl, rfl, rfl⟩ | exact ⟨_, rfl, bo_0 (by unfold isLs; omega), rfl, rfl, rfl⟩
      · refine r_iconst dX11_isLast_18 (v := nI 1) kc_1 ?_
        refine r_goto 23 dX11_isLast_19 (by decide) ?_
        refine r_ireturn dX11_isLast_23 .boolean rfl (by decide) ?_
        first | exact ⟨_, rfl, bo_1 (by unfold isLs; omega), rfl, rfl, rfl⟩ | exact ⟨_, rfl, bo_0 (by unfold isLs; omega), rfl, rfl, rfl⟩
theorem c_X11_isArgument {k : Nat} (hk : k < 16) (x : Int32) : am_R mX11_isArgument (po_i (fun v sh' I' P' => bo v (aOk k x) ∧ sh = sh' ∧ I = I' ∧ P = P')) 1 22 0 0 0 [some (.int (nI k)), some (.int x)] [] sh I P := by
  refine r_iload_n dX11_isArgument_0 rfl ?_
  rcases (show k = 0 ∨ k = 1 ∨ k = 2 ∨ k = 3 ∨ k = 4 ∨ k = 5 ∨ k = 6 ∨ k = 7 ∨ k = 8 ∨ k = 9 ∨ k = 10 ∨ k = 11 ∨ k = 12 ∨ k = 13 ∨ k = 14 ∨ k = 15 by omega) with rfl | rfl | rfl | rfl | rfl | rfl | rfl | rfl | rfl | rfl | rfl | rfl | rfl | rfl | rfl | rfl
  · refine r_tabIn (off := 79) 80 dX11_isArgument_1 (by decide) (by decide) (by decide) (by decide) ?_
    refine r_iload_n dX11_isArgument_80 rfl ?_
    refine r_bipush dX11_isArgument_81 (v := (-128)) (by decide) ?_
    refine r_bipush dX11_isArgument_83 (v := nI 127) (by decide) ?_
    refine r_callS3 (fr' := 0) (lo' := 0) (mc' := 0) (ms' := 0) dX11_isArgument_85 mm_X11_in ms_X11_in l_X11_142 (by decide) ⟨by decide, by decide⟩ (Nat.zero_le _) (Nat.zero_le _) (Nat.le_of_ble_eq_true rfl) (c_X11_in _ _ _) (am_ki ?_)
    rintro v85 _ _ _ ⟨hb85, rfl, rfl, rfl⟩
    refine r_ireturn dX11_isArgument_88 .boolean rfl hb85.nar ?_
    exact ⟨_, rfl, hb85, rfl, rfl, rfl⟩
  · refine r_tabIn (off := 104) 105 dX11_isArgument_1 (by decide) (by decide) (by decide) (by decide) ?_
    refine r_iload_n dX11_isArgument_105 rfl ?_
    refine r_if_ne 113 dX11_isArgument_106 (by decide) (fun h106 => ?_) (fun h106 => ?_)
    · refine r_iconst dX11_isArgument_113 (v := nI 0) kc_0 ?_
      refine r_ireturn dX11_isArgument_114 .boolean rfl (by decide) ?_
      first | exact ⟨_, rfl, bo_1 h106, rfl, rfl, rfl⟩ | exact ⟨_, rfl, bo_0 h106, rfl, rfl, rfl⟩
    · refine r_iconst dX11_isArgument_109 (v := nI 1) kc_1 ?_
      refine r_goto 114 dX11_isArgument_110 (by decide) ?_
      refine r_ireturn dX11_isArgument_114 .boolean rfl (by decide) ?_
      first | exact ⟨_, rfl, bo_1 h106, rfl, rfl, rfl⟩ | exact ⟨_, rfl, bo_0 h106, rfl, rfl, rfl⟩
  · refine r_tabIn (off := 104) 105 dX11_isArgument_1 (by decide) (by decide) (by decide) (by decide) ?_
    refine r_iload_n dX11_isArgument_105 rfl ?_
    refine r_if_ne 113 dX11_isArgument_106 (by decide) (fun h106 => ?_) (fun h106 => ?_)
    · refine r_iconst dX11_isArgument_113 (v := nI 0) kc_0 ?_
      refine r_ireturn dX11_isArgument_114 .boolean rfl (by decide) ?_
      first | exact ⟨_, rfl, bo_1 h106, rfl, rfl, rfl⟩ | exact ⟨_, rfl, bo_0 h106, rfl, rfl, rfl⟩
    · refine r_iconst dX11_isArgument_109 (v := nI 1) kc_1 ?_
      refine r_goto 114 dX11_isArgument_110 (by decide) ?_
      refine r_ireturn dX11_isArgument_114 .boolean rfl (by decide) ?_
      first | exact ⟨_, rfl, bo_1 h106, rfl, rfl, rfl⟩ | exact ⟨_, rfl, bo_0 h106, rfl, rfl, rfl⟩
  · refine r_tabIn (off := 104) 105 dX11_isArgument_1 (by decide) (by decide) (by decide) (by decide) ?_
    refine r_iload_n dX11_isArgument_105 rfl ?_
    refine r_if_ne 113 dX11_isArgument_106 (by decide) (fun h106 => ?_) (fun h106 => ?_)
    · refine r_iconst dX11_isArgument_113 (v := nI 0) kc_0 ?_
      refine r_ireturn dX11_isArgument_114 .boolean rfl (by decide) ?_
      first | exact ⟨_, rfl, bo_1 h106, rfl, rfl, rfl⟩ | exact ⟨_, rfl, bo_0 h106, rfl, rfl, rfl⟩
    · refine r_iconst dX11_isArgument_109 (v := nI 1) kc_1 ?_
      refine r_goto 114 dX11_isArgument_110 (by decide) ?_
      refine r_ireturn dX11_isArgument_114 .boolean rfl (by decide) ?_
      first | exact ⟨_, rfl, bo_1 h106, rfl, rfl, rfl⟩ | exact ⟨_, rfl, bo_0 h106, rfl, rfl, rfl⟩
  · refine r_tabIn (off := 104) 105 dX11_isArgument_1 (by decide) (by decide) (by decide) (by decide) ?_
    refine r_iload_n dX11_isArgument_105 rfl ?_
    refine r_if_ne 113 dX11_isArgument_106 (by decide) (fun h106 => ?_) (fun h106 => ?_)
    · refine r_iconst dX11_isArgument_113 (v := nI 0) kc_0 ?_
      refine r_ireturn dX11_isArgument_114 .boolean rfl (by decide) ?_
      first | exact ⟨_, rfl, bo_1 h106, rfl, rfl, rfl⟩ | exact ⟨_, rfl, bo_0 h106, rfl, rfl, rfl⟩
    · refine r_iconst dX11_isArgument_109 (v := nI 1) kc_1 ?_
      refine r_goto 114 dX11_isArgument_110 (by decide) ?_
      refine r_ireturn dX11_isArgument_114 .boolean rfl (by decide) ?_
      first | exact ⟨_, rfl, bo_1 h106, rfl, rfl, rfl⟩ | exact ⟨_, rfl, bo_0 h106, rfl, rfl, rfl⟩
  · refine r_tabIn (off := 104) 105 dX11_isArgument_1 (by decide) (by decide) (by decide) (by decide) ?_
    refine r_iload_n dX11_isArgument_105 rfl ?_
    refine r_if_ne 113 dX11_isArgument_106 (by decide) (fun h106 => ?_) (fun h106 => ?_)
    · refine r_iconst dX11_isArgument_113 (v := nI 0) kc_0 ?_
      refine r_ireturn dX11_isArgument_114 .boolean rfl (by decide) ?_
      first | exact ⟨_, rfl, bo_1 h106, rfl, rfl, rfl⟩ | exact ⟨_, rfl, bo_0 h106, rfl, rfl, rfl⟩
    · refine r_iconst dX11_isArgument_109 (v := nI 1) kc_1 ?_
      refine r_goto 114 dX11_isArgument_110 (by decide) ?_
      refine r_ireturn dX11_isArgument_114 .boolean rfl (by decide) ?_
      first | exact ⟨_, rfl, bo_1 h106, rfl, rfl, rfl⟩ | exact ⟨_, rfl, bo_0 h106, rfl, rfl, rfl⟩
  · refine r_tabIn (off := 104) 105 dX11_isArgument_1 (by decide) (by decide) (by decide) (by decide) ?_
    refine r_iload_n dX11_isArgument_105 rfl ?_
    refine r_if_ne 113 dX11_isArgument_106 (by decide) (fun h106 => ?_) (fun h106 => ?_)
    · refine r_iconst dX11_isArgument_113 (v := nI 0) kc_0 ?_
      refine r_ireturn dX11_isArgument_114 .boolean rfl (by decide) ?_
      first | exact ⟨_, rfl, bo_1 h106, rfl, rfl, rfl⟩ | exact ⟨_, rfl, bo_0 h106, rfl, rfl, rfl⟩
    · refine r_iconst dX11_isArgument_109 (v := nI 1) kc_1 ?_
      refine r_goto 114 dX11_isArgument_110 (by decide) ?_
      refine r_ireturn dX11_isArgument_114 .boolean rfl (by decide) ?_
      first | exact ⟨_, rfl, bo_1 h106, rfl, rfl, rfl⟩ | exact ⟨_, rfl, bo_0 h106, rfl, rfl, rfl⟩
  · refine r_tabIn (off := 88) 89 dX11_isArgument_1 (by decide) (by decide) (by decide) (by decide) ?_
    refine r_iload_n dX11_isArgument_89 rfl ?_
    refine r_iconst dX11_isArgument_90 (v := nI 0) kc_0 ?_
    refine r_bipush dX11_isArgument_91 (v := nI 7) (by decide) ?_
    refine r_callS3 (fr' := 0) (lo' := 0) (mc' := 0) (ms' := 0) dX11_isArgument_93 mm_X11_in ms_X11_in l_X11_142 (by decide) ⟨by decide, by decide⟩ (Nat.zero_le _) (Nat.zero_le _) (Nat.le_of_ble_eq_true rfl) (c_X11_in _ _ _) (am_ki ?_)
    rintro v93 _ _ _ ⟨hb93, rfl, rfl, rfl⟩
    refine r_ireturn dX11_isArgument_96 .boolean rfl hb93.nar ?_
    exact ⟨_, rfl, hb93, rfl, rfl, rfl⟩
  · refine r_tabIn (off := 88) 89 dX11_isArgument_1 (by decide) (by decide) (by decide) (by decide) ?_
    refine r_iload_n dX11_isArgument_89 rfl ?_
    refine r_iconst dX11_isArgument_90 (v := nI 0) kc_0 ?_
    refine r_bipush dX11_isArgument_91 (v := nI 7) (by decide) ?_
    refine r_callS3 (fr' := 0) (lo' := 0) (mc' := 0) (ms' := 0) dX11_isArgument_93 mm_X11_in ms_X11_in l_X11_142 (by decide) ⟨by decide, by decide⟩ (Nat.zero_le _) (Nat.zero_le _) (Nat.le_of_ble_eq_true rfl) (c_X11_in _ _ _) (am_ki ?_)
    rintro v93 _ _ _ ⟨hb93, rfl, rfl, rfl⟩
    refine r_ireturn dX11_isArgument_96 .boolean rfl hb93.nar ?_
    exact ⟨_, rfl, hb93, rfl, rfl, rfl⟩
  · refine r_tabIn (off := 96) 97 dX11_isArgument_1 (by decide) (by decide) (by decide) (by decide) ?_
    refine r_iload_n dX11_isArgument_97 rfl ?_
    refine r_iconst dX11_isArgument_98 (v := nI 0) kc_0 ?_
    refine r_bipush dX11_isArgument_99 (v := nI 39) (by decide) ?_
    refine r_callS3 (fr' := 0) (lo' := 0) (mc' := 0) (ms' := 0) dX11_isArgument_101 mm_X11_in ms_X11_in l_X11_142 (by decide) ⟨by decide, by decide⟩ (Nat.zero_le _) (Nat.zero_le _) (Nat.le_of_ble_eq_true rfl) (c_X11_in _ _ _) (am_ki ?_)
    rintro v101 _ _ _ ⟨hb101, rfl, rfl, rfl⟩
    refine r_ireturn dX11_isArgument_104 .boolean rfl hb101.nar ?_
    exact ⟨_, rfl, hb101, rfl, rfl, rfl⟩
  · refine r_tabIn (off := 96) 97 dX11_isArgument_1 (by decide) (by decide) (by decide) (by decide) ?_
    refine r_iload_n dX11_isArgument_97 rfl ?_
    refine r_iconst dX11_isArgument_98 (v := nI 0) kc_0 ?_
    refine r_bipush dX11_isArgument_99 (v := nI 39) (by decide) ?_
    refine r_callS3 (fr' := 0) (lo' := 0) (mc' := 0) (ms' := 0) dX11_isArgument_101 mm_X11_in ms_X11_in l_X11_142 (by decide) ⟨by decide, by decide⟩ (Nat.zero_le _) (Nat.zero_le _) (Nat.le_of_ble_eq_true rfl) (c_X11_in _ _ _) (am_ki ?_)
    rintro v101 _ _ _ ⟨hb101, rfl, rfl, rfl⟩
    refine r_ireturn dX11_isArgument_104 .boolean rfl hb101.nar ?_
    exact ⟨_, rfl, hb101, rfl, rfl, rfl⟩
  · refine r_tabIn (off := 104) 105 dX11_isArgument_1 (by decide) (by decide) (by decide) (by decide) ?_
    refine r_iload_n dX11_isArgument_105 rfl ?_
    refine r_if_ne 113 dX11_isArgument_106 (by decide) (fun h106 => ?_) (fun h106 => ?_)
    · refine r_iconst dX11_isArgument_113 (v := nI 0) kc_0 ?_
      refine r_ireturn dX11_isArgument_114 .boolean rfl (by decide) ?_
      first | exact ⟨_, rfl, bo_1 h106, rfl, rfl, rfl⟩ | exact ⟨_, rfl, bo_0 h106, rfl, rfl, rfl⟩
    · refine r_iconst dX11_isArgument_109 (v := nI 1) kc_1 ?_
      refine r_goto 114 dX11_isArgument_110 (by decide) ?_
      refine r_ireturn dX11_isArgument_114 .boolean rfl (by decide) ?_
      first | exact ⟨_, rfl, bo_1 h106, rfl, rfl, rfl⟩ | exact ⟨_, rfl, bo_0 h106, rfl, rfl, rfl⟩
  · refine r_tabIn (off := 104) 105 dX11_isArgument_1 (by decide) (by decide) (by decide) (by decide) ?_
    refine r_iload_n dX11_isArgument_105 rfl ?_
    refine r_if_ne 113 dX11_isArgument_106 (by decide) (fun h106 => ?_) (fun h106 => ?_)
    · refine r_iconst dX11_isArgument_113 (v := nI 0) kc_0 ?_
      refine r_ireturn dX11_isArgument_114 .boolean rfl (by decide) ?_
      first | exact ⟨_, rfl, bo_1 h106, rfl, rfl, rfl⟩ | exact ⟨_, rfl, bo_0 h106, rfl, rfl, rfl⟩
    · refine r_iconst dX11_isArgument_109 (v := nI 1) kc_1 ?_
      refine r_goto 114 dX11_isArgument_110 (by decide) ?_
      refine r_ireturn dX11_isArgument_114 .boolean rfl (by decide) ?_
      first | exact ⟨_, rfl, bo_1 h106, rfl, rfl, rfl⟩ | exact ⟨_, rfl, bo_0 h106, rfl, rfl, rfl⟩
  · refine r_tabIn (off := 104) 105 dX11_isArgument_1 (by decide) (by decide) (by decide) (by decide) ?_
    refine r_iload_n dX11_isArgument_105 rfl ?_
    refine r_if_ne 113 dX11_isArgument_106 (by decide) (fun h106 => ?_) (fun h106 => ?_)
    · refine r_iconst dX11_isArgument_113 (v := nI 0) kc_0 ?_
      refine r_ireturn dX11_isArgument_114 .boolean rfl (by decide) ?_
      first | exact ⟨_, rfl, bo_1 h106, rfl, rfl, rfl⟩ | exact ⟨_, rfl, bo_0 h106, rfl, rfl, rfl⟩
    · refine r_iconst dX11_isArgument_109 (v := nI 1) kc_1 ?_
      refine r_goto 114 dX11_isArgument_110 (by decide) ?_
      refine r_ireturn dX11_isArgument_114 .boolean rfl (by decide) ?_
      first | exact ⟨_, rfl, bo_1 h106, rfl, rfl, rfl⟩ | exact ⟨_, rfl, bo_0 h106, rfl, rfl, rfl⟩
  · refine r_tabIn (off := 104) 105 dX11_isArgument_1 (by decide) (by decide) (by decide) (by decide) ?_
    refine r_iload_n dX11_isArgument_105 rfl ?_
    refine r_if_ne 113 dX11_isArgument_106 (by decide) (fun h106 => ?_) (fun h106 => ?_)
    · refine r_iconst dX11_isArgument_113 (v := nI 0) kc_0 ?_
      refine r_ireturn dX11_isArgument_114 .boolean rfl (by decide) ?_
      first | exact ⟨_, rfl, bo_1 h106, rfl, rfl, rfl⟩ | exact ⟨_, rfl, bo_0 h106, rfl, rfl, rfl⟩
    · refine r_iconst dX11_isArgument_109 (v := nI 1) kc_1 ?_
      refine r_goto 114 dX11_isArgument_110 (by decide) ?_
      refine r_ireturn dX11_isArgument_114 .boolean rfl (by decide) ?_
      first | exact ⟨_, rfl, bo_1 h106, rfl, rfl, rfl⟩ | exact ⟨_, rfl, bo_0 h106, rfl, rfl, rfl⟩
  · refine r_tabIn (off := 88) 89 dX11_isArgument_1 (by decide) (by decide) (by decide) (by decide) ?_
    refine r_iload_n dX11_isArgument_89 rfl ?_
    refine r_iconst dX11_isArgument_90 (v := nI 0) kc_0 ?_
    refine r_bipush dX11_isArgument_91 (v := nI 7) (by decide) ?_
    refine r_callS3 (fr' := 0) (lo' := 0) (mc' := 0) (ms' := 0) dX11_isArgument_93 mm_X11_in ms_X11_in l_X11_142 (by decide) ⟨by decide, by decide⟩ (Nat.zero_le _) (Nat.zero_le _) (Nat.le_of_ble_eq_true rfl) (c_X11_in _ _ _) (am_ki ?_)
    rintro v93 _ _ _ ⟨hb93, rfl, rfl, rfl⟩
    refine r_ireturn dX11_isArgument_96 .boolean rfl hb93.nar ?_
    exact ⟨_, rfl, hb93, rfl, rfl, rfl⟩
theorem fg_step (g : Nat → Int32) (b k : Nat) : upd (fun j => if b ≤ j ∧ j < b + k then 0 else g j) (b + k) (nI 0) = fun j => if b ≤ j ∧ j < b + (k + 1) then 0 else g j := by
  funext j
  by_cases h : j = b + k
  · subst h
    simp [upd, nI_0]
  · have h2 : (b ≤ j ∧ j < b + k) ↔ (b ≤ j ∧ j < b + (k + 1)) := by omega
    simp only [upd, h, if_false, h2]
theorem l_X11_forget (S : St_m sh P) {q : Nat} (hq : q ≤ 11) (g : Nat → Int32) : ∀ (n k : Nat), k + n = 40 → ∀ I : AIn, am_R mX11_forget (po_v (fun sh' I' P' => I' = va_up I 5 (fun j => if 40 * q ≤ j ∧ j < 40 * q + 40 then 0 else g j) ∧ sh = sh' ∧ P = P')) 0 0 0 0 2 [some (.ref 0), some (.int (nI q)), some (.int (nI k))] [] sh (va_up I 5 (fun j => if 40 * q ≤ j ∧ j < 40 * q + k then 0 else g j)) P := by
  intro n
  induction n with
  | zero =>
    intro k hk I
    refine r_iload_n dX11_forget_2 rfl ?_
    refine r_bipush dX11_forget_3 (v := nI 40) (by decide) ?_
    refine r_icmp_geN 26 dX11_forget_5 (by decide) (by omega) (by omega) (fun h5 => ?_) (fun h5 => ?_)
    · refine r_return dX11_forget_26 rfl ?_
      have e : k = 40 := by omega
      subst e
      exact ⟨rfl, rfl, rfl, rfl⟩
    · exact absurd h5 (by omega)
  | succ n ih =>
    intro k hk I
    refine r_iload_n dX11_forget_2 rfl ?_
    refine r_bipush dX11_forget_3 (v := nI 40) (by decide) ?_
    refine r_icmp_geN 26 dX11_forget_5 (by decide) (by omega) (by omega) (fun h5 => ?_) (fun h5 => ?_)
    · exact absurd h5 (by omega)
    · refine r_aload_n dX11_forget_8 rfl ?_
      refine r_getP dX11_forget_9 g_X11_22 (S.1 _ _ rfl) rfl (S.2 _ _ _ rfl) ?_
      refine r_bipush dX11_forget_12 (v := nI 40) (by decide) ?_
      refine r_iload_n dX11_forget_14 rfl ?_
      first | refine r_imulN dX11_forget_15 ?_ | refine r_imul dX11_forget_15 ?_
      refine r_iload_n dX11_forget_16 rfl ?_
      first | refine r_iaddN dX11_forget_17 ?_ | refine r_iadd dX11_forget_17 ?_
      refine r_iconst dX11_forget_18 (v := nI 0) kc_0 ?_
      refine r_iastore _ dX11_forget_19 (S.1 _ _ rfl) rfl (by first | decide | omega) (by decide) ?_
      first | refine r_iincN dX11_forget_20 rfl kc_1 ?_ | refine r_iinc dX11_forget_20 rfl rfl ?_
      dsimp only [List.set]
      refine r_goto 2 dX11_forget_23 (by decide) ?_
      have h := ih (k + 1) (by omega) I
      rw [bx_uu, va_up_self, fg_step]
      exact h
theorem c_X11_forget (S : St_m sh P) {q : Nat} (hq : q ≤ 11) : am_R mX11_forget (po_v (fun sh' I' P' => I' = va_up I 5 (fun j => if 40 * q ≤ j ∧ j < 40 * q + 40 then 0 else I 5 j) ∧ sh = sh' ∧ P = P')) 0 0 0 0 0 [some (.ref 0), some (.int (nI q)), none] [] sh I P := by
  refine r_iconst dX11_forget_0 (v := nI 0) kc_0 ?_
  refine r_istore_n dX11_forget_1 (Nat.le_of_ble_eq_true rfl) ?_
  dsimp only [List.set]
  have h := l_X11_forget S hq (I 5) 40 0 rfl I
  have e : va_up I 5 (fun j => if 40 * q ≤ j ∧ j < 40 * q + 0 then 0 else I 5 j) = I := by
    funext k
    by_cases hk : k = 5
    · subst hk
      funext j
      have : ¬ (40 * q ≤ j ∧ j < 40 * q + 0) := by omega
      simp only [va_up, if_true, this, if_false]
    · simp only [va_up, hk, if_false]
  rw [e] at h
  exact h
end M1
end
section
/-! the reference: calls with small bodies -/
def mpo (sh : ASh) (P : APt) (J : AIn) (r : Int32) (σ' : AIn) : APo := po_i (fun v sh' I' P' => v = r ∧ rs I' = σ' ∧ hi I' J ∧ sh = sh' ∧ P = P')
def mpv (sh : ASh) (P : APt) (J : AIn) (σ' : AIn) : APo := po_v (fun sh' I' P' => rs I' = σ' ∧ hi I' J ∧ sh = sh' ∧ P = P')
section M2
variable {sh : ASh} {I : AIn} {P : APt}
theorem mpo_z {mi : MI} {fr lo c0 s0 pc : Nat} {lv : List (Option Value)} {st : List Value} {J : AIn} {f : Nat → Int32} {r : Int32} {σ' : AIn} (h : am_R mi (mpo sh P (va_up I 0 f) r σ') fr lo c0 s0 pc lv st sh J P) : am_R mi (mpo sh P I r σ') fr lo c0 s0 pc lv st sh J P :=
  am_mono h (by
    rintro _ _ _ _ ⟨v, rfl, h1, h2, h3, h4⟩
    exact ⟨v, rfl, h1, h2, fun q hq => by rw [h3 q hq, va_up_ne _ _ (by omega)], h4⟩)
theorem mpv_z {mi : MI} {fr lo c0 s0 pc : Nat} {lv : List (Option Value)} {st : List Value} {J : AIn} {f : Nat → Int32} {σ' : AIn} (h : am_R mi (mpv sh P (va_up I 0 f) σ') fr lo c0 s0 pc lv st sh J P) : am_R mi (mpv sh P I σ') fr lo c0 s0 pc lv st sh J P :=
  am_mono h (by
    rintro _ _ _ _ ⟨rfl, h2, h3, h4⟩
    exact ⟨rfl, h2, fun q hq => by rw [h3 q hq, va_up_ne _ _ (by omega)], h4⟩)
theorem iP.np {σ : AIn} (h : iP σ) : σ 1 0 = nI (np σ) ∧ np σ ≤ 3 := h.1
theorem iP.sz {σ : AIn} (h : iP σ) {q : Nat} (hq : q < 3) : σ 2 q = nI (sz σ q) ∧ sz σ q ≤ 40 := h.2.1 q hq
theorem b_X11_program (S : St_m sh P) (V : Inv (rs I))  : am_R mX11_program (mpo sh P I (p_res (rs I)) (p_op (rs I))) 1 22 0 0 5 [some (.ref 0), none] [] sh I P := by
  obtain ⟨e1, b1⟩ := V.1.np
  have e1 : I 1 0 = nI (np (rs I)) := e1
  generalize hN : np (rs I) = N at e1 b1
  refine r_aload_n dX11_program_5 rfl ?_
  refine r_getP dX11_program_6 g_X11_7 (S.1 _ _ rfl) rfl (S.2 _ _ _ rfl) ?_
  refine r_iconst dX11_program_9 (v := nI 0) kc_0 ?_
  refine r_iaload _ dX11_program_10 (S.1 _ _ rfl) rfl (by first | decide | omega) (by decide) ?_
  rw [e1]
  refine r_iconst dX11_program_11 (v := nI 3) kc_3 ?_
  refine r_icmp_neN 17 dX11_program_12 (by decide) (by omega) (by omega) (fun h12 => ?_) (fun h12 => ?_)
  · refine r_aload_n dX11_program_17 rfl ?_
    refine r_getP dX11_program_18 g_X11_7 (S.1 _ _ rfl) rfl (S.2 _ _ _ rfl) ?_
    refine r_iconst dX11_program_21 (v := nI 0) kc_0 ?_
    refine r_iaload _ dX11_program_22 (S.1 _ _ rfl) rfl (by first | decide | omega) (by decide) ?_
    rw [e1]
    refine r_istore_n dX11_program_23 (Nat.le_of_ble_eq_true rfl) ?_
    dsimp only [List.set]
    refine r_aload_n dX11_program_24 rfl ?_
    refine r_getP dX11_program_25 g_X11_7 (S.1 _ _ rfl) rfl (S.2 _ _ _ rfl) ?_
    refine r_iconst dX11_program_28 (v := nI 0) kc_0 ?_
    refine r_dup2 dX11_program_29 ?_
    refine r_iaload _ dX11_program_30 (S.1 _ _ rfl) rfl (by first | decide | omega) (by decide) ?_
    rw [e1]
    refine r_iconst dX11_program_31 (v := nI 1) kc_1 ?_
    first | refine r_iaddN dX11_program_32 ?_ | refine r_iadd dX11_program_32 ?_
    refine r_iastore _ dX11_program_33 (S.1 _ _ rfl) rfl (by first | decide | omega) (by decide) ?_
    refine r_aload_n dX11_program_34 rfl ?_
    refine r_getP dX11_program_35 g_X11_13 (S.1 _ _ rfl) rfl (S.2 _ _ _ rfl) ?_
    refine r_iload_n dX11_program_38 rfl ?_
    refine r_iconst dX11_program_39 (v := nI 0) kc_0 ?_
    refine r_iastore _ dX11_program_40 (S.1 _ _ rfl) rfl (by first | decide | omega) (by decide) ?_
    refine r_aload_n dX11_program_41 rfl ?_
    refine r_iload_n dX11_program_42 rfl ?_
    refine r_callV1 (fr' := 0) (lo' := 0) (mc' := 0) (ms' := 0) dX11_program_43 mm_X11_forget mv_X11_forget l_X11_146 (S.1 _ _ rfl) mc_X11_forget (by decide) ⟨by decide, by decide⟩ (Nat.zero_le _) (Nat.zero_le _) (Nat.le_of_ble_eq_true rfl) (c_X11_forget S (by omega)) (am_kv ?_)
    rintro _ _ _ ⟨rfl, rfl, rfl⟩
    refine r_iload_n dX11_program_46 rfl ?_
    refine r_ireturn dX11_program_47 .int rfl rfl ?_
    refine ⟨_, rfl, ?_, ?_, hi_up (hi_up (hi_up (hi_rf _) (by decide)) (by decide)) (by decide), rfl, rfl⟩
    · rw [p_res, cif_f (by omega), hN]
    · rw [p_op, cif_f (by omega), hN, rs_up rfl, rs_up rfl, rs_up rfl]
      rfl
  · refine r_iconst dX11_program_15 (v := (-1)) kc_m1 ?_
    refine r_ireturn dX11_program_16 .int rfl rfl ?_
    refine ⟨_, rfl, ?_, ?_, hi_rf _, rfl, rfl⟩
    · rw [p_res, cif_t (by omega)]
    · rw [p_op, cif_t (by omega)]
theorem c_X11_program (S : St_m sh P) (V : Inv (rs I))  : am_R mX11_program (mpo sh P I (p_res (rs I)) (p_op (rs I))) 1 22 0 0 0 [some (.ref 0), none] [] sh I P := by
  refine r_aload_n dX11_program_0 rfl ?_
  refine r_iconst dX11_program_1 (v := nI 0) kc_0 ?_
  refine r_putI dX11_program_2 f_X11_134 (S.1 _ _ rfl) rfl rfl rfl ?_
  have e : rs (va_up I 0 (upd (I 0) 0 (nI 0))) = rs I := rs_no rfl
  have h := b_X11_program (I := va_up I 0 (upd (I 0) 0 (nI 0))) S (by rw [e]; exact V)
  rw [e] at h
  exact mpo_z h
theorem b_X11_order (S : St_m sh P) (V : Inv (rs I))  (x y z : Int32): am_R mX11_order (mpo sh P I (o_res (rs I) x y z) (o_op (rs I) x y z)) 2 43 0 0 5 [some (.ref 0), some (.int x), some (.int y), some (.int z), none] [] sh I P := by
  obtain ⟨e1, b1⟩ := V.1.np
  have e1 : I 1 0 = nI (np (rs I)) := e1
  generalize hN : np (rs I) = N at e1 b1
  refine r_aload_n dX11_order_5 rfl ?_
  refine r_iload_n dX11_order_6 rfl ?_
  refine r_callV1 (fr' := 1) (lo' := 22) (mc' := 0) (ms' := 0) dX11_order_7 mm_X11_isProgram mv_X11_isProgram l_X11_150 (S.1 _ _ rfl) mc_X11_isProgram (by decide) ⟨by decide, by decide⟩ (Nat.zero_le _) (Nat.zero_le _) (Nat.le_of_ble_eq_true rfl) (c_X11_isProgram S _ e1 b1) (am_ki ?_)
  rintro v7 _ _ _ ⟨hb7, rfl, rfl, rfl⟩
  refine r_if_eq 42 dX11_order_10 (by decide) (fun h10 => ?_) (fun h10 => ?_)
  · replace h10 := hb7.f h10
    have hc : ¬ o_c (rs I) x y z := fun h => h10 (by rw [← hN]; exact h.1)
    refine r_iconst dX11_order_42 (v := (-1)) kc_m1 ?_
    refine r_ireturn dX11_order_43 .int rfl rfl ?_
    refine ⟨_, rfl, ?_, ?_, hi_rf _, rfl, rfl⟩
    · rw [o_res, cif_f hc]
    · rw [o_op, cif_f hc]
  · replace h10 := hb7.t h10
    obtain ⟨j, hj, rfl⟩ := h10
    obtain ⟨e2, b2⟩ := V.1.sz (q := j) (by omega)
    have e2 : I 2 j = nI (sz (rs I) j) := e2
    generalize hM : sz (rs I) j = M at e2 b2
    have nj : nv (nI j) = j := nv_nI (by omega)
    refine r_iload_n dX11_order_13 rfl ?_
    refine r_iconst dX11_order_14 (v := nI 0) kc_0 ?_
    refine r_bipush dX11_order_15 (v := nI 15) (by decide) ?_
    refine r_callS3 (fr' := 0) (lo' := 0) (mc' := 0) (ms' := 0) dX11_order_17 mm_X11_in ms_X11_in l_X11_142 (by decide) ⟨by decide, by decide⟩ (Nat.zero_le _) (Nat.zero_le _) (Nat.le_of_ble_eq_true rfl) (c_X11_in _ _ _) (am_ki ?_)
    rintro v17 _ _ _ ⟨hb17, rfl, rfl, rfl⟩
    refine r_if_eq 42 dX11_order_20 (by decide) (fun h20 => ?_) (fun h20 => ?_)
    · replace h20 := hb17.f h20
      have hc : ¬ o_c (rs I) (nI j) y z := fun h => h20 ((in_iff (by decide)).mpr (by obtain ⟨w, hw, e⟩ := h.2.1; exact ⟨w, by omega, e⟩))
      refine r_iconst dX11_order_42 (v := (-1)) kc_m1 ?_
      refine r_ireturn dX11_order_43 .int rfl rfl ?_
      refine ⟨_, rfl, ?_, ?_, hi_rf _, rfl, rfl⟩
      · rw [o_res, cif_f hc]
      · rw [o_op, cif_f hc]
    · replace h20 := hb17.t h20
      obtain ⟨k, hk, rfl⟩ := (in_iff (by decide)).mp h20
      have nk : nv (nI k) = k := nv_nI (by omega)
      refine r_iload_n dX11_order_23 rfl ?_
      refine r_iload_n dX11_order_24 rfl ?_
      refine r_callS2 (fr' := 1) (lo' := 22) (mc' := 0) (ms' := 0) dX11_order_25 mm_X11_isArgument ms_X11_isArgument l_X11_154 (by decide) ⟨by decide, by decide⟩ (Nat.zero_le _) (Nat.zero_le _) (Nat.le_of_ble_eq_true rfl) (c_X11_isArgument (by omega) _) (am_ki ?_)
      rintro v25 _ _ _ ⟨hb25, rfl, rfl, rfl⟩
      refine r_if_eq 42 dX11_order_28 (by decide) (fun h28 => ?_) (fun h28 => ?_)
      · replace h28 := hb25.f h28
        have hc : ¬ o_c (rs I) (nI j) (nI k) z := fun h => h28 (by have h9 := h.2.2.1; rw [nk] at h9; exact h9)
        refine r_iconst dX11_order_42 (v := (-1)) kc_m1 ?_
        refine r_ireturn dX11_order_43 .int rfl rfl ?_
        refine ⟨_, rfl, ?_, ?_, hi_rf _, rfl, rfl⟩
        · rw [o_res, cif_f hc]
        · rw [o_op, cif_f hc]
      · replace h28 := hb25.t h28
        refine r_aload_n dX11_order_31 rfl ?_
        refine r_getP dX11_order_32 g_X11_13 (S.1 _ _ rfl) rfl (S.2 _ _ _ rfl) ?_
        refine r_iload_n dX11_order_35 rfl ?_
        refine r_iaload _ dX11_order_36 (S.1 _ _ rfl) rfl (by first | decide | omega) (by decide) ?_
        rw [e2]
        refine r_bipush dX11_order_37 (v := nI 40) (by decide) ?_
        refine r_icmp_neN 44 dX11_order_39 (by decide) (by omega) (by omega) (fun h39 => ?_) (fun h39 => ?_)
        · have hc : o_c (rs I) (nI j) (nI k) z := ⟨by rw [hN]; exact inR_nI hj, inR_nI (by omega), by rw [nk]; exact h28, by rw [nj, hM]; omega⟩
          refine r_bipush dX11_order_44 (v := nI 40) (by decide) ?_
          refine r_iload_n dX11_order_46 rfl ?_
          first | refine r_imulN dX11_order_47 ?_ | refine r_imul dX11_order_47 ?_
          refine r_aload_n dX11_order_48 rfl ?_
          refine r_getP dX11_order_49 g_X11_13 (S.1 _ _ rfl) rfl (S.2 _ _ _ rfl) ?_
          refine r_iload_n dX11_order_52 rfl ?_
          refine r_iaload _ dX11_order_53 (S.1 _ _ rfl) rfl (by first | decide | omega) (by decide) ?_
          rw [e2]
          first | refine r_iaddN dX11_order_54 ?_ | refine r_iadd dX11_order_54 ?_
          refine r_istore dX11_order_55 (Nat.le_of_ble_eq_true rfl) ?_
          dsimp only [List.set]
          refine r_aload_n dX11_order_57 rfl ?_
          refine r_getP dX11_order_58 g_X11_16 (S.1 _ _ rfl) rfl (S.2 _ _ _ rfl) ?_
          refine r_iload dX11_order_61 rfl ?_
          refine r_iload_n dX11_order_63 rfl ?_
          refine r_iastore _ dX11_order_64 (S.1 _ _ rfl) rfl (by first | decide | omega) (by decide) ?_
          refine r_aload_n dX11_order_65 rfl ?_
          refine r_getP dX11_order_66 g_X11_19 (S.1 _ _ rfl) rfl (S.2 _ _ _ rfl) ?_
          refine r_iload dX11_order_69 rfl ?_
          refine r_iload_n dX11_order_71 rfl ?_
          refine r_iastore _ dX11_order_72 (S.1 _ _ rfl) rfl (by first | decide | omega) (by decide) ?_
          refine r_aload_n dX11_order_73 rfl ?_
          refine r_getP dX11_order_74 g_X11_13 (S.1 _ _ rfl) rfl (S.2 _ _ _ rfl) ?_
          refine r_iload_n dX11_order_77 rfl ?_
          refine r_dup2 dX11_order_78 ?_
          refine r_iaload _ dX11_order_79 (S.1 _ _ rfl) rfl (by first | decide | omega) (by decide) ?_
          simp (decide := true) only [va_up_ne, va_up_self]
          rw [e2]
          refine r_iconst dX11_order_80 (v := nI 1) kc_1 ?_
          first | refine r_iaddN dX11_order_81 ?_ | refine r_iadd dX11_order_81 ?_
          refine r_iastore _ dX11_order_82 (S.1 _ _ rfl) rfl (by first | decide | omega) (by decide) ?_
          refine r_aload_n dX11_order_83 rfl ?_
          refine r_iload_n dX11_order_84 rfl ?_
          refine r_callV1 (fr' := 0) (lo' := 0) (mc' := 0) (ms' := 0) dX11_order_85 mm_X11_forget mv_X11_forget l_X11_146 (S.1 _ _ rfl) mc_X11_forget (by decide) ⟨by decide, by decide⟩ (Nat.zero_le _) (Nat.zero_le _) (Nat.le_of_ble_eq_true rfl) (c_X11_forget S (by omega)) (am_kv ?_)
          rintro _ _ _ ⟨rfl, rfl, rfl⟩
          refine r_aload_n dX11_order_88 rfl ?_
          refine r_getP dX11_order_89 g_X11_13 (S.1 _ _ rfl) rfl (S.2 _ _ _ rfl) ?_
          refine r_iload_n dX11_order_92 rfl ?_
          refine r_iaload _ dX11_order_93 (S.1 _ _ rfl) rfl (by first | decide | omega) (by decide) ?_
          simp (decide := true) only [va_up_ne, va_up_self]
          rw [pk_us]
          refine r_iconst dX11_order_94 (v := nI 1) kc_1 ?_
          first | refine r_isubN dX11_order_95 (by omega) ?_ | refine r_isub dX11_order_95 ?_
          refine r_ireturn dX11_order_96 .int rfl rfl ?_
          refine ⟨_, rfl, ?_, ?_, hi_up (hi_up (hi_up (hi_up (hi_rf _) (by decide)) (by decide)) (by decide)) (by decide), rfl, rfl⟩
          · rw [o_res, cif_t hc, nj, hM]
            rfl
          · rw [o_op, cif_t hc, nj, hM, rs_up rfl, rs_up rfl, rs_up rfl, rs_up rfl]
            rfl
        · have hc : ¬ o_c (rs I) (nI j) (nI k) z := fun h => by have h9 := h.2.2.2; rw [nj, hM] at h9; omega
          refine r_iconst dX11_order_42 (v := (-1)) kc_m1 ?_
          refine r_ireturn dX11_order_43 .int rfl rfl ?_
          refine ⟨_, rfl, ?_, ?_, hi_rf _, rfl, rfl⟩
          · rw [o_res, cif_f hc]
          · rw [o_op, cif_f hc]
theorem c_X11_order (S : St_m sh P) (V : Inv (rs I))  (x y z : Int32): am_R mX11_order (mpo sh P I (o_res (rs I) x y z) (o_op (rs I) x y z)) 2 43 0 0 0 [some (.ref 0), some (.int x), some (.int y), some (.int z), none] [] sh I P := by
  refine r_aload_n dX11_order_0 rfl ?_
  refine r_iconst dX11_order_1 (v := nI 0) kc_0 ?_
  refine r_putI dX11_order_2 f_X11_134 (S.1 _ _ rfl) rfl rfl rfl ?_
  have e : rs (va_up I 0 (upd (I 0) 0 (nI 0))) = rs I := rs_no rfl
  have h := b_X11_order (I := va_up I 0 (upd (I 0) 0 (nI 0))) S (by rw [e]; exact V) x y z
  rw [e] at h
  exact mpo_z h
theorem b_X11_change (S : St_m sh P) (V : Inv (rs I))  (x y z : Int32): am_R mX11_change (mpo sh P I (c_res (rs I) x y z) (c_op (rs I) x y z)) 2 43 0 0 5 [some (.ref 0), some (.int x), some (.int y), some (.int z), none] [] sh I P := by
  obtain ⟨e1, b1⟩ := V.1.np
  have e1 : I 1 0 = nI (np (rs I)) := e1
  generalize hN : np (rs I) = N at e1 b1
  refine r_aload_n dX11_change_5 rfl ?_
  refine r_iload_n dX11_change_6 rfl ?_
  refine r_callV1 (fr' := 1) (lo' := 22) (mc' := 0) (ms' := 0) dX11_change_7 mm_X11_isProgram mv_X11_isProgram l_X11_150 (S.1 _ _ rfl) mc_X11_isProgram (by decide) ⟨by decide, by decide⟩ (Nat.zero_le _) (Nat.zero_le _) (Nat.le_of_ble_eq_true rfl) (c_X11_isProgram S _ e1 b1) (am_ki ?_)
  rintro v7 _ _ _ ⟨hb7, rfl, rfl, rfl⟩
  refine r_if_eq 29 dX11_change_10 (by decide) (fun h10 => ?_) (fun h10 => ?_)
  · replace h10 := hb7.f h10
    have hc : ¬ c_c (rs I) x y z := fun h => h10 (by rw [← hN]; exact h.1)
    refine r_iconst dX11_change_29 (v := nI 0) kc_0 ?_
    refine r_ireturn dX11_change_30 .boolean rfl rfl ?_
    refine ⟨_, rfl, ?_, ?_, hi_rf _, rfl, rfl⟩
    · rw [c_res, cif_f hc]
    · rw [c_op, cif_f hc]
  · replace h10 := hb7.t h10
    obtain ⟨j, hj, rfl⟩ := h10
    obtain ⟨e2, b2⟩ := V.1.sz (q := j) (by omega)
    have e2 : I 2 j = nI (sz (rs I) j) := e2
    generalize hM : sz (rs I) j = M at e2 b2
    have nj : nv (nI j) = j := nv_nI (by omega)
    refine r_iload_n dX11_change_13 rfl ?_
    refine r_iconst dX11_change_14 (v := nI 0) kc_0 ?_
    refine r_aload_n dX11_change_15 rfl ?_
    refine r_getP dX11_change_16 g_X11_13 (S.1 _ _ rfl) rfl (S.2 _ _ _ rfl) ?_
    refine r_iload_n dX11_change_19 rfl ?_
    refine r_iaload _ dX11_change_20 (S.1 _ _ rfl) rfl (by first | decide | omega) (by decide) ?_
    rw [e2]
    refine r_iconst dX11_change_21 (v := nI 1) kc_1 ?_
    refine r_isub dX11_change_22 ?_
    refine r_callS3 (fr' := 0) (lo' := 0) (mc' := 0) (ms' := 0) dX11_change_23 mm_X11_in ms_X11_in l_X11_142 (by decide) ⟨by decide, by decide⟩ (Nat.zero_le _) (Nat.zero_le _) (Nat.le_of_ble_eq_true rfl) (c_X11_in _ _ _) (am_ki ?_)
    rintro v23 _ _ _ ⟨hb23, rfl, rfl, rfl⟩
    refine r_if_ne 31 dX11_change_26 (by decide) (fun h26 => ?_) (fun h26 => ?_)
    · replace h26 := hb23.t h26
      obtain ⟨i, hi2, rfl⟩ := (in_iff1 (by omega)).mp h26
      have ni : nv (nI i) = i := nv_nI (by omega)
      have hK := V.1.2.2.1 j i (by omega) (by rw [hM]; exact hi2)
      have e3 : I 3 (40 * j + i) = nI (nv (I 3 (40 * j + i))) := hK.1.1
      have b3 : nv (I 3 (40 * j + i)) ≤ 15 := hK.1.2
      generalize hD : nv (I 3 (40 * j + i)) = D at e3 b3
      refine r_bipush dX11_change_31 (v := nI 40) (by decide) ?_
      refine r_iload_n dX11_change_33 rfl ?_
      first | refine r_imulN dX11_change_34 ?_ | refine r_imul dX11_change_34 ?_
      refine r_iload_n dX11_change_35 rfl ?_
      first | refine r_iaddN dX11_change_36 ?_ | refine r_iadd dX11_change_36 ?_
      refine r_istore dX11_change_37 (Nat.le_of_ble_eq_true rfl) ?_
      dsimp only [List.set]
      refine r_aload_n dX11_change_39 rfl ?_
      refine r_getP dX11_change_40 g_X11_16 (S.1 _ _ rfl) rfl (S.2 _ _ _ rfl) ?_
      refine r_iload dX11_change_43 rfl ?_
      refine r_iaload _ dX11_change_45 (S.1 _ _ rfl) rfl (by first | decide | omega) (by decide) ?_
      rw [e3]
      refine r_callS1 (fr' := 0) (lo' := 0) (mc' := 0) (ms' := 0) dX11_change_46 mm_X11_hasArgument ms_X11_hasArgument l_X11_158 (by decide) ⟨by decide, by decide⟩ (Nat.zero_le _) (Nat.zero_le _) (Nat.le_of_ble_eq_true rfl) (c_X11_hasArgument (by omega)) (am_ki ?_)
      rintro v46 _ _ _ ⟨hb46, rfl, rfl, rfl⟩
      refine r_if_eq 66 dX11_change_49 (by decide) (fun h49 => ?_) (fun h49 => ?_)
      · replace h49 := hb46.f h49
        have hc : ¬ c_c (rs I) (nI j) (nI i) z := fun h => h49 (by have h9 := h.2.2.1; rw [nj, ni] at h9; rw [← hD]; exact h9)
        refine r_iconst dX11_change_66 (v := nI 0) kc_0 ?_
        refine r_ireturn dX11_change_67 .boolean rfl rfl ?_
        refine ⟨_, rfl, ?_, ?_, hi_rf _, rfl, rfl⟩
        · rw [c_res, cif_f hc]
        · rw [c_op, cif_f hc]
      · replace h49 := hb46.t h49
        refine r_aload_n dX11_change_52 rfl ?_
        refine r_getP dX11_change_53 g_X11_16 (S.1 _ _ rfl) rfl (S.2 _ _ _ rfl) ?_
        refine r_iload dX11_change_56 rfl ?_
        refine r_iaload _ dX11_change_58 (S.1 _ _ rfl) rfl (by first | decide | omega) (by decide) ?_
        rw [e3]
        refine r_iload_n dX11_change_59 rfl ?_
        refine r_callS2 (fr' := 1) (lo' := 22) (mc' := 0) (ms' := 0) dX11_change_60 mm_X11_isArgument ms_X11_isArgument l_X11_154 (by decide) ⟨by decide, by decide⟩ (Nat.zero_le _) (Nat.zero_le _) (Nat.le_of_ble_eq_true rfl) (c_X11_isArgument (by omega) _) (am_ki ?_)
        rintro v60 _ _ _ ⟨hb60, rfl, rfl, rfl⟩
        refine r_if_ne 68 dX11_change_63 (by decide) (fun h63 => ?_) (fun h63 => ?_)
        · replace h63 := hb60.t h63
          have hc : c_c (rs I) (nI j) (nI i) z := ⟨by rw [hN]; exact inR_nI hj, by rw [nj, hM]; exact inR_nI hi2, by rw [nj, ni]; rw [← hD] at h49; exact h49, by rw [nj, ni]; rw [← hD] at h63; exact h63⟩
          refine r_aload_n dX11_change_68 rfl ?_
          refine r_getP dX11_change_69 g_X11_19 (S.1 _ _ rfl) rfl (S.2 _ _ _ rfl) ?_
          refine r_iload dX11_change_72 rfl ?_
          refine r_iload_n dX11_change_74 rfl ?_
          refine r_iastore _ dX11_change_75 (S.1 _ _ rfl) rfl (by first | decide | omega) (by decide) ?_
          refine r_aload_n dX11_change_76 rfl ?_
          refine r_iload_n dX11_change_77 rfl ?_
          refine r_callV1 (fr' := 0) (lo' := 0) (mc' := 0) (ms' := 0) dX11_change_78 mm_X11_forget mv_X11_forget l_X11_146 (S.1 _ _ rfl) mc_X11_forget (by decide) ⟨by decide, by decide⟩ (Nat.zero_le _) (Nat.zero_le _) (Nat.le_of_ble_eq_true rfl) (c_X11_forget S (by omega)) (am_kv ?_)
          rintro _ _ _ ⟨rfl, rfl, rfl⟩
          refine r_iconst dX11_change_81 (v := nI 1) kc_1 ?_
          refine r_ireturn dX11_change_82 .boolean rfl rfl ?_
          refine ⟨_, rfl, ?_, ?_, hi_up (hi_up (hi_rf _) (by decide)) (by decide), rfl, rfl⟩
          · rw [c_res, cif_t hc]
          · rw [c_op, cif_t hc, nj, ni, rs_up rfl, rs_up rfl]
            rfl
        · replace h63 := hb60.f h63
          have hc : ¬ c_c (rs I) (nI j) (nI i) z := fun h => h63 (by have h9 := h.2.2.2; rw [nj, ni] at h9; rw [← hD]; exact h9)
          refine r_iconst dX11_change_66 (v := nI 0) kc_0 ?_
          refine r_ireturn dX11_change_67 .boolean rfl rfl ?_
          refine ⟨_, rfl, ?_, ?_, hi_rf _, rfl, rfl⟩
          · rw [c_res, cif_f hc]
          · rw [c_op, cif_f hc]
    · replace h26 := hb23.f h26
      have hc : ¬ c_c (rs I) (nI j) y z := fun h => h26 ((in_iff1 (by omega)).mpr (by have h9 := h.2.1; rw [nj, hM] at h9; exact h9))
      refine r_iconst dX11_change_29 (v := nI 0) kc_0 ?_
      refine r_ireturn dX11_change_30 .boolean rfl rfl ?_
      refine ⟨_, rfl, ?_, ?_, hi_rf _, rfl, rfl⟩
      · rw [c_res, cif_f hc]
      · rw [c_op, cif_f hc]
theorem c_X11_change (S : St_m sh P) (V : Inv (rs I))  (x y z : Int32): am_R mX11_change (mpo sh P I (c_res (rs I) x y z) (c_op (rs I) x y z)) 2 43 0 0 0 [some (.ref 0), some (.int x), some (.int y), some (.int z), none] [] sh I P := by
  refine r_aload_n dX11_change_0 rfl ?_
  refine r_iconst dX11_change_1 (v := nI 0) kc_0 ?_
  refine r_putI dX11_change_2 f_X11_134 (S.1 _ _ rfl) rfl rfl rfl ?_
  have e : rs (va_up I 0 (upd (I 0) 0 (nI 0))) = rs I := rs_no rfl
  have h := b_X11_change (I := va_up I 0 (upd (I 0) 0 (nI 0))) S (by rw [e]; exact V) x y z
  rw [e] at h
  exact mpo_z h
theorem l_X11_isLed (S : St_m sh P) (V : iP (rs I)) {q t : Nat} (hq : q < 3) (ht : t < 2147483648) : ∀ (n k : Nat), k + n = sz (rs I) q → (∀ i, i < k → ¬ ((I 3 (40 * q + i) = nI 9 ∨ I 3 (40 * q + i) = nI 10) ∧ I 4 (40 * q + i) = nI t)) → ∀ x4, am_R mX11_isLed (po_i (fun v sh' I' P' => bo v (led (rs I) q t) ∧ sh = sh' ∧ I = I' ∧ P = P')) 0 0 0 0 2 [some (.ref 0), some (.int (nI q)), some (.int (nI t)), some (.int (nI k)), x4] [] sh I P := by
  obtain ⟨e2, b2⟩ := V.sz hq
  have e2 : I 2 q = nI (sz (rs I) q) := e2
  generalize hM : sz (rs I) q = M at e2 b2
  intro n
  induction n with
  | zero =>
    intro k hk hno x4
    refine r_iload_n dX11_isLed_2 rfl ?_
    refine r_aload_n dX11_isLed_3 rfl ?_
    refine r_getP dX11_isLed_4 g_X11_13 (S.1 _ _ rfl) rfl (S.2 _ _ _ rfl) ?_
    refine r_iload_n dX11_isLed_7 rfl ?_
    refine r_iaload _ dX11_isLed_8 (S.1 _ _ rfl) rfl (by first | decide | omega) (by decide) ?_
    rw [e2]
    refine r_icmp_geN 63 dX11_isLed_9 (by decide) (by omega) (by omega) (fun h9 => ?_) (fun h9 => ?_)
    · refine r_iconst dX11_isLed_63 (v := nI 0) kc_0 ?_
      refine r_ireturn dX11_isLed_64 .boolean rfl rfl ?_
      refine ⟨_, rfl, bo_0 ?_, rfl, rfl, rfl⟩
      rintro ⟨i, h1, h2, h3⟩
      exact hno i (by rw [hM] at h1; omega) ⟨h2, h3⟩
    · exact absurd h9 (by omega)
  | succ n ih =>
    intro k hk hno x4
    have hK := V.2.2.1 q k hq (by omega)
    have e3 : I 3 (40 * q + k) = nI (nv (I 3 (40 * q + k))) := hK.1.1
    have b3 : nv (I 3 (40 * q + k)) ≤ 15 := hK.1.2
    generalize hD : nv (I 3 (40 * q + k)) = D at e3 b3
    refine r_iload_n dX11_isLed_2 rfl ?_
    refine r_aload_n dX11_isLed_3 rfl ?_
    refine r_getP dX11_isLed_4 g_X11_13 (S.1 _ _ rfl) rfl (S.2 _ _ _ rfl) ?_
    refine r_iload_n dX11_isLed_7 rfl ?_
    refine r_iaload _ dX11_isLed_8 (S.1 _ _ rfl) rfl (by first | decide | omega) (by decide) ?_
    rw [e2]
    refine r_icmp_geN 63 dX11_isLed_9 (by decide) (by omega) (by omega) (fun h9 => ?_) (fun h9 => ?_)
    · exact absurd h9 (by omega)
    · refine r_bipush dX11_isLed_12 (v := nI 40) (by decide) ?_
      refine r_iload_n dX11_isLed_14 rfl ?_
      first | refine r_imulN dX11_isLed_15 ?_ | refine r_imul dX11_isLed_15 ?_
      refine r_iload_n dX11_isLed_16 rfl ?_
      first | refine r_iaddN dX11_isLed_17 ?_ | refine r_iadd dX11_isLed_17 ?_
      refine r_istore dX11_isLed_18 (Nat.le_of_ble_eq_true rfl) ?_
      dsimp only [List.set]
      refine r_aload_n dX11_isLed_20 rfl ?_
      refine r_getP dX11_isLed_21 g_X11_16 (S.1 _ _ rfl) rfl (S.2 _ _ _ rfl) ?_
      refine r_iload dX11_isLed_24 rfl ?_
      refine r_iaload _ dX11_isLed_26 (S.1 _ _ rfl) rfl (by first | decide | omega) (by decide) ?_
      rw [e3]
      refine r_bipush dX11_isLed_27 (v := nI 9) (by decide) ?_
      refine r_icmp_eqN 44 dX11_isLed_29 (by decide) (by omega) (by omega) (fun h29 => ?_) (fun h29 => ?_)
      · refine r_aload_n dX11_isLed_44 rfl ?_
        refine r_getP dX11_isLed_45 g_X11_19 (S.1 _ _ rfl) rfl (S.2 _ _ _ rfl) ?_
        refine r_iload dX11_isLed_48 rfl ?_
        refine r_iaload _ dX11_isLed_50 (S.1 _ _ rfl) rfl (by first | decide | omega) (by decide) ?_
        refine r_iload_n dX11_isLed_51 rfl ?_
        refine r_icmp_ne 57 dX11_isLed_52 (by decide) (fun h52 => ?_) (fun h52 => ?_)
        · have hno2 : ∀ i, i < k + 1 → ¬ ((I 3 (40 * q + i) = nI 9 ∨ I 3 (40 * q + i) = nI 10) ∧ I 4 (40 * q + i) = nI t) := by
            intro i hi hh
            rcases Nat.lt_or_ge i k with g | g
            · exact hno i g hh
            · have e : i = k := by omega
              subst e
              rw [e3, nI_eq (by omega) (by decide), nI_eq (by omega) (by decide)] at hh
              first | exact h52 hh.2 | omega
          first | refine r_iincN dX11_isLed_57 rfl kc_1 ?_ | refine r_iinc dX11_isLed_57 rfl rfl ?_
          dsimp only [List.set]
          refine r_goto 2 dX11_isLed_60 (by decide) ?_
          exact ih (k + 1) (by omega) hno2 _
        · refine r_iconst dX11_isLed_55 (v := nI 1) kc_1 ?_
          refine r_ireturn dX11_isLed_56 .boolean rfl rfl ?_
          refine ⟨_, rfl, bo_1 ⟨k, by omega, ?_, h52⟩, rfl, rfl, rfl⟩
          show I 3 (40 * q + k) = nI 9 ∨ I 3 (40 * q + k) = nI 10
          rw [e3]
          first | exact Or.inl (by rw [h29]) | exact Or.inr (by rw [h41])
      · refine r_aload_n dX11_isLed_32 rfl ?_
        refine r_getP dX11_isLed_33 g_X11_16 (S.1 _ _ rfl) rfl (S.2 _ _ _ rfl) ?_
        refine r_iload dX11_isLed_36 rfl ?_
        refine r_iaload _ dX11_isLed_38 (S.1 _ _ rfl) rfl (by first | decide | omega) (by decide) ?_
        rw [e3]
        refine r_bipush dX11_isLed_39 (v := nI 10) (by decide) ?_
        refine r_icmp_neN 57 dX11_isLed_41 (by decide) (by omega) (by omega) (fun h41 => ?_) (fun h41 => ?_)
        · have hno2 : ∀ i, i < k + 1 → ¬ ((I 3 (40 * q + i) = nI 9 ∨ I 3 (40 * q + i) = nI 10) ∧ I 4 (40 * q + i) = nI t) := by
            intro i hi hh
            rcases Nat.lt_or_ge i k with g | g
            · exact hno i g hh
            · have e : i = k := by omega
              subst e
              rw [e3, nI_eq (by omega) (by decide), nI_eq (by omega) (by decide)] at hh
              first | exact h52 hh.2 | omega
          first | refine r_iincN dX11_isLed_57 rfl kc_1 ?_ | refine r_iinc dX11_isLed_57 rfl rfl ?_
          dsimp only [List.set]
          refine r_goto 2 dX11_isLed_60 (by decide) ?_
          exact ih (k + 1) (by omega) hno2 _
        · refine r_aload_n dX11_isLed_44 rfl ?_
          refine r_getP dX11_isLed_45 g_X11_19 (S.1 _ _ rfl) rfl (S.2 _ _ _ rfl) ?_
          refine r_iload dX11_isLed_48 rfl ?_
          refine r_iaload _ dX11_isLed_50 (S.1 _ _ rfl) rfl (by first | decide | omega) (by decide) ?_
          refine r_iload_n dX11_isLed_51 rfl ?_
          refine r_icmp_ne 57 dX11_isLed_52 (by decide) (fun h52 => ?_) (fun h52 => ?_)
          · have hno2 : ∀ i, i < k + 1 → ¬ ((I 3 (40 * q + i) = nI 9 ∨ I 3 (40 * q + i) = nI 10) ∧ I 4 (40 * q + i) = nI t) := by
              intro i hi hh
              rcases Nat.lt_or_ge i k with g | g
              · exact hno i g hh
              · have e : i = k := by omega
                subst e
                rw [e3, nI_eq (by omega) (by decide), nI_eq (by omega) (by decide)] at hh
                first | exact h52 hh.2 | omega
            first | refine r_iincN dX11_isLed_57 rfl kc_1 ?_ | refine r_iinc dX11_isLed_57 rfl rfl ?_
            dsimp only [List.set]
            refine r_goto 2 dX11_isLed_60 (by decide) ?_
            exact ih (k + 1) (by omega) hno2 _
          · refine r_iconst dX11_isLed_55 (v := nI 1) kc_1 ?_
            refine r_ireturn dX11_isLed_56 .boolean rfl rfl ?_
            refine ⟨_, rfl, bo_1 ⟨k, by omega, ?_, h52⟩, rfl, rfl, rfl⟩
            show I 3 (40 * q + k) = nI 9 ∨ I 3 (40 * q + k) = nI 10
            rw [e3]
            first | exact Or.inl (by rw [h29]) | exact Or.inr (by rw [h41])
theorem c_X11_isLed (S : St_m sh P) (V : iP (rs I)) {q t : Nat} (hq : q < 3) (ht : t < 2147483648) : am_R mX11_isLed (po_i (fun v sh' I' P' => bo v (led (rs I) q t) ∧ sh = sh' ∧ I = I' ∧ P = P')) 0 0 0 0 0 [some (.ref 0), some (.int (nI q)), some (.int (nI t)), none, none] [] sh I P := by
  refine r_iconst dX11_isLed_0 (v := nI 0) kc_0 ?_
  refine r_istore_n dX11_isLed_1 (Nat.le_of_ble_eq_true rfl) ?_
  dsimp only [List.set]
  exact l_X11_isLed S V hq ht (sz (rs I) q) 0 (Nat.zero_add _) (fun i hi => absurd hi (Nat.not_lt_zero i)) _
theorem sw_2 (x : Int32) : x = nI 0 ∨ x = nI 1 ∨ x = nI 2 ∨ (¬ (x = nI 0 ∨ x = nI 1 ∨ x = nI 2) ∧ (x.toInt < 0 ∨ 2 < x.toInt)) := by
  by_cases h : x.toInt < 0 ∨ 2 < x.toInt
  · refine Or.inr (Or.inr (Or.inr (⟨?_, h⟩)))
    rintro (rfl | rfl | rfl) <;> (revert h; decide)
  · have h0 : ¬ x < 0 := fun g => h (Or.inl (by have := Int32.lt_iff_toInt_lt.mp g; simpa using this))
    obtain ⟨j, hj, rfl⟩ := nI_of h0
    rw [nI_toInt hj] at h
    rcases (show j = 0 ∨ j = 1 ∨ j = 2 by omega) with rfl | rfl | rfl <;> simp
theorem sw_3 (x : Int32) : x = nI 0 ∨ x = nI 1 ∨ x = nI 2 ∨ x = nI 3 ∨ (¬ (x = nI 0 ∨ x = nI 1 ∨ x = nI 2 ∨ x = nI 3) ∧ (x.toInt < 0 ∨ 3 < x.toInt)) := by
  by_cases h : x.toInt < 0 ∨ 3 < x.toInt
  · refine Or.inr (Or.inr (Or.inr (Or.inr (⟨?_, h⟩))))
    rintro (rfl | rfl | rfl | rfl) <;> (revert h; decide)
  · have h0 : ¬ x < 0 := fun g => h (Or.inl (by have := Int32.lt_iff_toInt_lt.mp g; simpa using this))
    obtain ⟨j, hj, rfl⟩ := nI_of h0
    rw [nI_toInt hj] at h
    rcases (show j = 0 ∨ j = 1 ∨ j = 2 ∨ j = 3 by omega) with rfl | rfl | rfl | rfl <;> simp
theorem sw_4 (x : Int32) : x = nI 0 ∨ x = nI 1 ∨ x = nI 2 ∨ x = nI 3 ∨ x = nI 4 ∨ (¬ (x = nI 0 ∨ x = nI 1 ∨ x = nI 2 ∨ x = nI 3 ∨ x = nI 4) ∧ (x.toInt < 0 ∨ 4 < x.toInt)) := by
  by_cases h : x.toInt < 0 ∨ 4 < x.toInt
  · refine Or.inr (Or.inr (Or.inr (Or.inr (Or.inr (⟨?_, h⟩)))))
    rintro (rfl | rfl | rfl | rfl | rfl) <;> (revert h; decide)
  · have h0 : ¬ x < 0 := fun g => h (Or.inl (by have := Int32.lt_iff_toInt_lt.mp g; simpa using this))
    obtain ⟨j, hj, rfl⟩ := nI_of h0
    rw [nI_toInt hj] at h
    rcases (show j = 0 ∨ j = 1 ∨ j = 2 ∨ j = 3 ∨ j = 4 by omega) with rfl | rfl | rfl | rfl | rfl <;> simp
theorem sw_5 (x : Int32) : x = nI 0 ∨ x = nI 1 ∨ x = nI 2 ∨ x = nI 3 ∨ x = nI 4 ∨ x = nI 5 ∨ (¬ (x = nI 0 ∨ x = nI 1 ∨ x = nI 2 ∨ x = nI 3 ∨ x = nI 4 ∨ x = nI 5) ∧ (x.toInt < 0 ∨ 5 < x.toInt)) := by
  by_cases h : x.toInt < 0 ∨ 5 < x.toInt
  · refine Or.inr (Or.inr (Or.inr (Or.inr (Or.inr (Or.inr (⟨?_, h⟩))))))
    rintro (rfl | rfl | rfl | rfl | rfl | rfl) <;> (revert h; decide)
  · have h0 : ¬ x < 0 := fun g => h (Or.inl (by have := Int32.lt_iff_toInt_lt.mp g; simpa using this))
    obtain ⟨j, hj, rfl⟩ := nI_of h0
    rw [nI_toInt hj] at h
    rcases (show j = 0 ∨ j = 1 ∨ j = 2 ∨ j = 3 ∨ j = 4 ∨ j = 5 by omega) with rfl | rfl | rfl | rfl | rfl | rfl <;> simp
end M2
end
section
/-! the reference: calls that only read -/
section M3
variable {sh : ASh} {I : AIn} {P : APt}
theorem isN.e {x : Int32} {m : Nat} (h : isN x m) : x = nI (nv x) := h.1
theorem neg_in (x : Int32) : ¬ (nI 0 ≤ x ∧ x ≤ -1 - nI 1) := by
  rintro ⟨h1, h2⟩
  have h4 := Int32.le_trans h1 h2
  exact absurd h4 (by decide)
/-- between 0 and what stands there less 1, where there may be -1 -/
theorem in_iffN {x y : Int32} {m : Nat} (hy : y = -1 ∨ isN y m) (hm : m < 2147483648) : (nI 0 ≤ x ∧ x ≤ y - nI 1) ↔ inR x (nv y) := by
  rcases hy with rfl | h
  · rw [nv_m1]
    constructor
    · intro h
      exact absurd h (neg_in x)
    · rintro ⟨j, hj, -⟩
      omega
  · rw [h.1, in_iff1 (by have := h.2; omega), nv_nI (by have := h.2; omega)]
    rfl
theorem b_X11_tell (S : St_m sh P) (V : Inv (rs I))  (x y z : Int32): am_R mX11_tell (mpo sh P I (t_res (rs I) x y z) (rs I)) 2 43 0 0 5 [some (.ref 0), some (.int x), some (.int y), some (.int z), none] [] sh I P := by
  obtain ⟨e1, b1⟩ := V.1.np
  have e1 : I 1 0 = nI (np (rs I)) := e1
  generalize hN : np (rs I) = N at e1 b1
  refine r_aload_n dX11_tell_5 rfl ?_
  refine r_iload_n dX11_tell_6 rfl ?_
  refine r_callV1 (fr' := 1) (lo' := 22) (mc' := 0) (ms' := 0) dX11_tell_7 mm_X11_isProgram mv_X11_isProgram l_X11_150 (S.1 _ _ rfl) mc_X11_isProgram (by decide) ⟨by decide, by decide⟩ (Nat.zero_le _) (Nat.zero_le _) (Nat.le_of_ble_eq_true rfl) (c_X11_isProgram S _ e1 b1) (am_ki ?_)
  rintro v7 _ _ _ ⟨hb7, rfl, rfl, rfl⟩
  refine r_if_eq 29 dX11_tell_10 (by decide) (fun h10 => ?_) (fun h10 => ?_)
  · replace h10 := hb7.f h10
    have hc : ¬ (inR x (np (rs I)) ∧ inR y (sz (rs I) (nv x))) := fun h => h10 (by rw [← hN]; exact h.1)
    refine r_iconst dX11_tell_29 (v := (-1)) kc_m1 ?_
    refine r_ireturn dX11_tell_30 .int rfl rfl ?_
    refine ⟨_, rfl, ?_, rfl, hi_rf _, rfl, rfl⟩
    rw [t_res, cif_f hc]
  · replace h10 := hb7.t h10
    obtain ⟨j, hj, rfl⟩ := h10
    obtain ⟨e2, b2⟩ := V.1.sz (q := j) (by omega)
    have e2 : I 2 j = nI (sz (rs I) j) := e2
    generalize hM : sz (rs I) j = M at e2 b2
    have nj : nv (nI j) = j := nv_nI (by omega)
    refine r_iload_n dX11_tell_13 rfl ?_
    refine r_iconst dX11_tell_14 (v := nI 0) kc_0 ?_
    refine r_aload_n dX11_tell_15 rfl ?_
    refine r_getP dX11_tell_16 g_X11_13 (S.1 _ _ rfl) rfl (S.2 _ _ _ rfl) ?_
    refine r_iload_n dX11_tell_19 rfl ?_
    refine r_iaload _ dX11_tell_20 (S.1 _ _ rfl) rfl (by first | decide | omega) (by decide) ?_
    rw [e2]
    refine r_iconst dX11_tell_21 (v := nI 1) kc_1 ?_
    refine r_isub dX11_tell_22 ?_
    refine r_callS3 (fr' := 0) (lo' := 0) (mc' := 0) (ms' := 0) dX11_tell_23 mm_X11_in ms_X11_in l_X11_142 (by decide) ⟨by decide, by decide⟩ (Nat.zero_le _) (Nat.zero_le _) (Nat.le_of_ble_eq_true rfl) (c_X11_in _ _ _) (am_ki ?_)
    rintro v23 _ _ _ ⟨hb23, rfl, rfl, rfl⟩
    refine r_if_ne 31 dX11_tell_26 (by decide) (fun h26 => ?_) (fun h26 => ?_)
    · replace h26 := hb23.t h26
      obtain ⟨i, hi2, rfl⟩ := (in_iff1 (by omega)).mp h26
      have ni : nv (nI i) = i := nv_nI (by omega)
      have hc : inR (nI j) (np (rs I)) ∧ inR (nI i) (sz (rs I) (nv (nI j))) := ⟨by rw [hN]; exact inR_nI hj, by rw [nj, hM]; exact inR_nI hi2⟩
      refine r_bipush dX11_tell_31 (v := nI 40) (by decide) ?_
      refine r_iload_n dX11_tell_33 rfl ?_
      first | refine r_imulN dX11_tell_34 ?_ | refine r_imul dX11_tell_34 ?_
      refine r_iload_n dX11_tell_35 rfl ?_
      first | refine r_iaddN dX11_tell_36 ?_ | refine r_iadd dX11_tell_36 ?_
      refine r_istore dX11_tell_37 (Nat.le_of_ble_eq_true rfl) ?_
      dsimp only [List.set]
      refine r_iload_n dX11_tell_39 rfl ?_
      rcases sw_3 z with rfl | rfl | rfl | rfl | ⟨hz, hx⟩
      · refine r_tabIn (off := 32) 72 dX11_tell_40 (by decide) (by decide) (by decide) (by decide) ?_
        refine r_aload_n dX11_tell_72 rfl ?_
        refine r_getP dX11_tell_73 g_X11_16 (S.1 _ _ rfl) rfl (S.2 _ _ _ rfl) ?_
        refine r_iload dX11_tell_76 rfl ?_
        refine r_iaload _ dX11_tell_78 (S.1 _ _ rfl) rfl (by first | decide | omega) (by decide) ?_
        refine r_ireturn dX11_tell_79 .int rfl rfl ?_
        refine ⟨_, rfl, ?_, rfl, hi_rf _, rfl, rfl⟩
        rw [t_res, cif_t hc, nj, ni]
        rfl
      · refine r_tabIn (off := 40) 80 dX11_tell_40 (by decide) (by decide) (by decide) (by decide) ?_
        refine r_aload_n dX11_tell_80 rfl ?_
        refine r_getP dX11_tell_81 g_X11_19 (S.1 _ _ rfl) rfl (S.2 _ _ _ rfl) ?_
        refine r_iload dX11_tell_84 rfl ?_
        refine r_iaload _ dX11_tell_86 (S.1 _ _ rfl) rfl (by first | decide | omega) (by decide) ?_
        refine r_ireturn dX11_tell_87 .int rfl rfl ?_
        refine ⟨_, rfl, ?_, rfl, hi_rf _, rfl, rfl⟩
        rw [t_res, cif_t hc, nj, ni]
        rfl
      · refine r_tabIn (off := 48) 88 dX11_tell_40 (by decide) (by decide) (by decide) (by decide) ?_
        refine r_aload_n dX11_tell_88 rfl ?_
        refine r_getP dX11_tell_89 g_X11_22 (S.1 _ _ rfl) rfl (S.2 _ _ _ rfl) ?_
        refine r_iload dX11_tell_92 rfl ?_
        refine r_iaload _ dX11_tell_94 (S.1 _ _ rfl) rfl (by first | decide | omega) (by decide) ?_
        refine r_ireturn dX11_tell_95 .int rfl rfl ?_
        refine ⟨_, rfl, ?_, rfl, hi_rf _, rfl, rfl⟩
        rw [t_res, cif_t hc, nj, ni]
        rfl
      · refine r_tabIn (off := 56) 96 dX11_tell_40 (by decide) (by decide) (by decide) (by decide) ?_
        refine r_aload_n dX11_tell_96 rfl ?_
        refine r_iload_n dX11_tell_97 rfl ?_
        refine r_iload_n dX11_tell_98 rfl ?_
        refine r_callV2 (fr' := 0) (lo' := 0) (mc' := 0) (ms' := 0) dX11_tell_99 mm_X11_isLed mv_X11_isLed l_X11_161 (S.1 _ _ rfl) mc_X11_isLed (by decide) ⟨by decide, by decide⟩ (Nat.zero_le _) (Nat.zero_le _) (Nat.le_of_ble_eq_true rfl) (c_X11_isLed S V.1 (by omega) (by omega)) (am_ki ?_)
        rintro v99 _ _ _ ⟨hb99, rfl, rfl, rfl⟩
        refine r_if_eq 109 dX11_tell_102 (by decide) (fun h102 => ?_) (fun h102 => ?_)
        · replace h102 := hb99.f h102
          refine r_iconst dX11_tell_109 (v := nI 0) kc_0 ?_
          refine r_ireturn dX11_tell_110 .int rfl rfl ?_
          refine ⟨_, rfl, ?_, rfl, hi_rf _, rfl, rfl⟩
          rw [t_res, cif_t hc, nj, ni]
          show _ = cif (led (rs I) j i) (nI 1) (nI 0)
          first | rw [cif_t h102] | rw [cif_f h102]
        · replace h102 := hb99.t h102
          refine r_iconst dX11_tell_105 (v := nI 1) kc_1 ?_
          refine r_goto 110 dX11_tell_106 (by decide) ?_
          refine r_ireturn dX11_tell_110 .int rfl rfl ?_
          refine ⟨_, rfl, ?_, rfl, hi_rf _, rfl, rfl⟩
          rw [t_res, cif_t hc, nj, ni]
          show _ = cif (led (rs I) j i) (nI 1) (nI 0)
          first | rw [cif_t h102] | rw [cif_f h102]
      · refine r_tabOut 111 dX11_tell_40 hx (by decide) ?_
        refine r_iconst dX11_tell_111 (v := (-1)) kc_m1 ?_
        refine r_ireturn dX11_tell_112 .int rfl rfl ?_
        refine ⟨_, rfl, ?_, rfl, hi_rf _, rfl, rfl⟩
        have hz0 : z ≠ nI 0 := fun h => hz (Or.inl h)
        have hz1 : z ≠ nI 1 := fun h => hz (Or.inr (Or.inl h))
        have hz2 : z ≠ nI 2 := fun h => hz (Or.inr (Or.inr (Or.inl h)))
        have hz3 : z ≠ nI 3 := fun h => hz (Or.inr (Or.inr (Or.inr h)))
        rw [t_res, cif_t hc, if_neg hz0, if_neg hz1, if_neg hz2, if_neg hz3]
    · replace h26 := hb23.f h26
      have hc : ¬ (inR (nI j) (np (rs I)) ∧ inR y (sz (rs I) (nv (nI j)))) := fun h => h26 ((in_iff1 (by omega)).mpr (by have h9 := h.2; rw [nj, hM] at h9; exact h9))
      refine r_iconst dX11_tell_29 (v := (-1)) kc_m1 ?_
      refine r_ireturn dX11_tell_30 .int rfl rfl ?_
      refine ⟨_, rfl, ?_, rfl, hi_rf _, rfl, rfl⟩
      rw [t_res, cif_f hc]
theorem c_X11_tell (S : St_m sh P) (V : Inv (rs I))  (x y z : Int32): am_R mX11_tell (mpo sh P I (t_res (rs I) x y z) (rs I)) 2 43 0 0 0 [some (.ref 0), some (.int x), some (.int y), some (.int z), none] [] sh I P := by
  refine r_aload_n dX11_tell_0 rfl ?_
  refine r_iconst dX11_tell_1 (v := nI 0) kc_0 ?_
  refine r_putI dX11_tell_2 f_X11_134 (S.1 _ _ rfl) rfl rfl rfl ?_
  have e : rs (va_up I 0 (upd (I 0) 0 (nI 0))) = rs I := rs_no rfl
  have h := b_X11_tell (I := va_up I 0 (upd (I 0) 0 (nI 0))) S (by rw [e]; exact V) x y z
  rw [e] at h
  exact mpo_z h
theorem b_X11_part (S : St_m sh P) (V : Inv (rs I))  : am_R mX11_part (mpv sh P I (pt_op (rs I))) 0 0 0 0 5 [some (.ref 0)] [] sh I P := by
  refine r_aload_n dX11_part_5 rfl ?_
  refine r_getP dX11_part_6 g_X11_25 (S.1 _ _ rfl) rfl (S.2 _ _ _ rfl) ?_
  refine r_iconst dX11_part_9 (v := nI 0) kc_0 ?_
  refine r_iconst dX11_part_10 (v := nI 0) kc_0 ?_
  refine r_iastore _ dX11_part_11 (S.1 _ _ rfl) rfl (by first | decide | omega) (by decide) ?_
  refine r_return dX11_part_12 rfl ?_
  exact ⟨rfl, by rw [rs_up rfl]; rfl, hi_up (hi_rf _) (by decide), rfl, rfl⟩
theorem c_X11_part (S : St_m sh P) (V : Inv (rs I))  : am_R mX11_part (mpv sh P I (pt_op (rs I))) 0 0 0 0 0 [some (.ref 0)] [] sh I P := by
  refine r_aload_n dX11_part_0 rfl ?_
  refine r_iconst dX11_part_1 (v := nI 0) kc_0 ?_
  refine r_putI dX11_part_2 f_X11_134 (S.1 _ _ rfl) rfl rfl rfl ?_
  have e : rs (va_up I 0 (upd (I 0) 0 (nI 0))) = rs I := rs_no rfl
  have h := b_X11_part (I := va_up I 0 (upd (I 0) 0 (nI 0))) S (by rw [e]; exact V)
  rw [e] at h
  exact mpv_z h
theorem b_X11_joined (S : St_m sh P) (V : Inv (rs I))  (x y : Int32): am_R mX11_joined (mpo sh P I (jd_res (rs I) x y) (rs I)) 1 22 0 0 5 [some (.ref 0), some (.int x), some (.int y)] [] sh I P := by
  have e6 : isN (I 6 0) 6 := V.2.1.1
  refine r_iload_n dX11_joined_5 rfl ?_
  refine r_iconst dX11_joined_6 (v := nI 0) kc_0 ?_
  refine r_aload_n dX11_joined_7 rfl ?_
  refine r_getP dX11_joined_8 g_X11_25 (S.1 _ _ rfl) rfl (S.2 _ _ _ rfl) ?_
  refine r_iconst dX11_joined_11 (v := nI 0) kc_0 ?_
  refine r_iaload _ dX11_joined_12 (S.1 _ _ rfl) rfl (by first | decide | omega) (by decide) ?_
  refine r_iconst dX11_joined_13 (v := nI 1) kc_1 ?_
  refine r_isub dX11_joined_14 ?_
  refine r_callS3 (fr' := 0) (lo' := 0) (mc' := 0) (ms' := 0) dX11_joined_15 mm_X11_in ms_X11_in l_X11_142 (by decide) ⟨by decide, by decide⟩ (Nat.zero_le _) (Nat.zero_le _) (Nat.le_of_ble_eq_true rfl) (c_X11_in _ _ _) (am_ki ?_)
  rintro v15 _ _ _ ⟨hb15, rfl, rfl, rfl⟩
  refine r_if_eq 54 dX11_joined_18 (by decide) (fun h18 => ?_) (fun h18 => ?_)
  · replace h18 := hb15.f h18
    have hc : ¬ (inR x (nj (rs I)) ∧ inR y (nv (rs I 7 (5 * nv x)))) := fun h => h18 ((in_iffN (Or.inr e6) (by decide)).mpr h.1)
    refine r_iconst dX11_joined_54 (v := (-1)) kc_m1 ?_
    refine r_ireturn dX11_joined_55 .int rfl rfl ?_
    refine ⟨_, rfl, ?_, rfl, hi_rf _, rfl, rfl⟩
    first | rw [jd_res, cif_f hc] | (rw [jd_res, cif_t hc, nj2, ni2]; rfl)
  · replace h18 := hb15.t h18
    have h18 := (in_iffN (Or.inr e6) (by decide)).mp h18
    obtain ⟨j, hj, rfl⟩ := id h18
    have b6 := e6.2
    have nj2 : nv (nI j) = j := nv_nI (by omega)
    have hO : jOk (I 7) (5 * j) := V.2.1.2.1 j hj
    refine r_iload_n dX11_joined_21 rfl ?_
    refine r_iconst dX11_joined_22 (v := nI 0) kc_0 ?_
    refine r_aload_n dX11_joined_23 rfl ?_
    refine r_getP dX11_joined_24 g_X11_28 (S.1 _ _ rfl) rfl (S.2 _ _ _ rfl) ?_
    refine r_iconst dX11_joined_27 (v := nI 5) kc_5 ?_
    refine r_iload_n dX11_joined_28 rfl ?_
    first | refine r_imulN dX11_joined_29 ?_ | refine r_imul dX11_joined_29 ?_
    refine r_iaload (5 * j) dX11_joined_30 (S.1 _ _ rfl) rfl (by first | decide | omega) (by decide) ?_
    refine r_iconst dX11_joined_31 (v := nI 1) kc_1 ?_
    refine r_isub dX11_joined_32 ?_
    refine r_callS3 (fr' := 0) (lo' := 0) (mc' := 0) (ms' := 0) dX11_joined_33 mm_X11_in ms_X11_in l_X11_142 (by decide) ⟨by decide, by decide⟩ (Nat.zero_le _) (Nat.zero_le _) (Nat.le_of_ble_eq_true rfl) (c_X11_in _ _ _) (am_ki ?_)
    rintro v33 _ _ _ ⟨hb33, rfl, rfl, rfl⟩
    refine r_if_eq 54 dX11_joined_36 (by decide) (fun h36 => ?_) (fun h36 => ?_)
    · replace h36 := hb33.f h36
      have hc : ¬ (inR (nI j) (nj (rs I)) ∧ inR y (nv (rs I 7 (5 * nv (nI j))))) := fun h => h36 ((in_iffN (Or.inr hO.1.2) (by decide)).mpr (by have h9 := h.2; rw [nj2] at h9; exact h9))
      refine r_iconst dX11_joined_54 (v := (-1)) kc_m1 ?_
      refine r_ireturn dX11_joined_55 .int rfl rfl ?_
      refine ⟨_, rfl, ?_, rfl, hi_rf _, rfl, rfl⟩
      first | rw [jd_res, cif_f hc] | (rw [jd_res, cif_t hc, nj2, ni2]; rfl)
    · replace h36 := hb33.t h36
      have h36 := (in_iffN (Or.inr hO.1.2) (by decide)).mp h36
      obtain ⟨i, hi2, rfl⟩ := id h36
      have b7 := hO.1.2.2
      have ni2 : nv (nI i) = i := nv_nI (by omega)
      have hc : inR (nI j) (nj (rs I)) ∧ inR (nI i) (nv (rs I 7 (5 * nv (nI j)))) := ⟨h18, by rw [nj2]; exact h36⟩
      refine r_aload_n dX11_joined_39 rfl ?_
      refine r_getP dX11_joined_40 g_X11_28 (S.1 _ _ rfl) rfl (S.2 _ _ _ rfl) ?_
      refine r_iconst dX11_joined_43 (v := nI 5) kc_5 ?_
      refine r_iload_n dX11_joined_44 rfl ?_
      first | refine r_imulN dX11_joined_45 ?_ | refine r_imul dX11_joined_45 ?_
      refine r_iconst dX11_joined_46 (v := nI 1) kc_1 ?_
      first | refine r_iaddN dX11_joined_47 ?_ | refine r_iadd dX11_joined_47 ?_
      refine r_iload_n dX11_joined_48 rfl ?_
      first | refine r_iaddN dX11_joined_49 ?_ | refine r_iadd dX11_joined_49 ?_
      refine r_iaload (5 * j + 1 + i) dX11_joined_50 (S.1 _ _ rfl) rfl (by first | decide | omega) (by decide) ?_
      refine r_goto 55 dX11_joined_51 (by decide) ?_
      refine r_ireturn dX11_joined_55 .int rfl rfl ?_
      refine ⟨_, rfl, ?_, rfl, hi_rf _, rfl, rfl⟩
      first | rw [jd_res, cif_f hc] | (rw [jd_res, cif_t hc, nj2, ni2]; rfl)
theorem c_X11_joined (S : St_m sh P) (V : Inv (rs I))  (x y : Int32): am_R mX11_joined (mpo sh P I (jd_res (rs I) x y) (rs I)) 1 22 0 0 0 [some (.ref 0), some (.int x), some (.int y)] [] sh I P := by
  refine r_aload_n dX11_joined_0 rfl ?_
  refine r_iconst dX11_joined_1 (v := nI 0) kc_0 ?_
  refine r_putI dX11_joined_2 f_X11_134 (S.1 _ _ rfl) rfl rfl rfl ?_
  have e : rs (va_up I 0 (upd (I 0) 0 (nI 0))) = rs I := rs_no rfl
  have h := b_X11_joined (I := va_up I 0 (upd (I 0) 0 (nI 0))) S (by rw [e]; exact V) x y
  rw [e] at h
  exact mpo_z h
theorem b_X11_code (S : St_m sh P) (V : Inv (rs I))  (x y : Int32): am_R mX11_code (mpo sh P I (cd_res (rs I) x y) (rs I)) 1 22 0 0 5 [some (.ref 0), some (.int x), some (.int y)] [] sh I P := by
  have e6 : I 11 0 = -1 ∨ isN (I 11 0) 40 := by
    rcases V.2.2.1 with h | h
    · exact Or.inl h
    · exact Or.inr h.1
  refine r_iload_n dX11_code_5 rfl ?_
  refine r_iconst dX11_code_6 (v := nI 0) kc_0 ?_
  refine r_aload_n dX11_code_7 rfl ?_
  refine r_getP dX11_code_8 g_X11_40 (S.1 _ _ rfl) rfl (S.2 _ _ _ rfl) ?_
  refine r_iconst dX11_code_11 (v := nI 0) kc_0 ?_
  refine r_iaload _ dX11_code_12 (S.1 _ _ rfl) rfl (by first | decide | omega) (by decide) ?_
  refine r_iconst dX11_code_13 (v := nI 1) kc_1 ?_
  refine r_isub dX11_code_14 ?_
  refine r_callS3 (fr' := 0) (lo' := 0) (mc' := 0) (ms' := 0) dX11_code_15 mm_X11_in ms_X11_in l_X11_142 (by decide) ⟨by decide, by decide⟩ (Nat.zero_le _) (Nat.zero_le _) (Nat.le_of_ble_eq_true rfl) (c_X11_in _ _ _) (am_ki ?_)
  rintro v15 _ _ _ ⟨hb15, rfl, rfl, rfl⟩
  refine r_if_eq 43 dX11_code_18 (by decide) (fun h18 => ?_) (fun h18 => ?_)
  · replace h18 := hb15.f h18
    have hc : ¬ (inR x (nv (rs I 11 0)) ∧ inR y 3) := fun h => h18 ((in_iffN e6 (by decide)).mpr h.1)
    refine r_iconst dX11_code_43 (v := (-1)) kc_m1 ?_
    refine r_ireturn dX11_code_44 .int rfl rfl ?_
    refine ⟨_, rfl, ?_, rfl, hi_rf _, rfl, rfl⟩
    first | rw [cd_res, cif_f hc] | (rw [cd_res, cif_t hc, nj2, ni2]; rfl)
  · replace h18 := hb15.t h18
    have h18 := (in_iffN e6 (by decide)).mp h18
    obtain ⟨j, hj, rfl⟩ := id h18
    have b6 : nv (I 11 0) ≤ 40 := by
      rcases e6 with h | h
      · rw [h, nv_m1]; omega
      · exact h.2
    have nj2 : nv (nI j) = j := nv_nI (by omega)
    refine r_iload_n dX11_code_21 rfl ?_
    refine r_iconst dX11_code_22 (v := nI 0) kc_0 ?_
    refine r_iconst dX11_code_23 (v := nI 2) kc_2 ?_
    refine r_callS3 (fr' := 0) (lo' := 0) (mc' := 0) (ms' := 0) dX11_code_24 mm_X11_in ms_X11_in l_X11_142 (by decide) ⟨by decide, by decide⟩ (Nat.zero_le _) (Nat.zero_le _) (Nat.le_of_ble_eq_true rfl) (c_X11_in _ _ _) (am_ki ?_)
    rintro v24 _ _ _ ⟨hb24, rfl, rfl, rfl⟩
    refine r_if_eq 43 dX11_code_27 (by decide) (fun h27 => ?_) (fun h27 => ?_)
    · replace h27 := hb24.f h27
      have hc : ¬ (inR (nI j) (nv (rs I 11 0)) ∧ inR y 3) := fun h => h27 ((in_iff (by decide)).mpr (by obtain ⟨w, hw, e⟩ := h.2; exact ⟨w, by omega, e⟩))
      refine r_iconst dX11_code_43 (v := (-1)) kc_m1 ?_
      refine r_ireturn dX11_code_44 .int rfl rfl ?_
      refine ⟨_, rfl, ?_, rfl, hi_rf _, rfl, rfl⟩
      first | rw [cd_res, cif_f hc] | (rw [cd_res, cif_t hc, nj2, ni2]; rfl)
    · replace h27 := hb24.t h27
      obtain ⟨i, hi2, rfl⟩ := (in_iff (by decide)).mp h27
      have ni2 : nv (nI i) = i := nv_nI (by omega)
      have hc : inR (nI j) (nv (rs I 11 0)) ∧ inR (nI i) 3 := ⟨h18, inR_nI (by omega)⟩
      refine r_aload_n dX11_code_30 rfl ?_
      refine r_getP dX11_code_31 g_X11_43 (S.1 _ _ rfl) rfl (S.2 _ _ _ rfl) ?_
      refine r_iconst dX11_code_34 (v := nI 3) kc_3 ?_
      refine r_iload_n dX11_code_35 rfl ?_
      first | refine r_imulN dX11_code_36 ?_ | refine r_imul dX11_code_36 ?_
      refine r_iload_n dX11_code_37 rfl ?_
      first | refine r_iaddN dX11_code_38 ?_ | refine r_iadd dX11_code_38 ?_
      refine r_iaload (3 * j + i) dX11_code_39 (S.1 _ _ rfl) rfl (by first | decide | omega) (by decide) ?_
      refine r_goto 44 dX11_code_40 (by decide) ?_
      refine r_ireturn dX11_code_44 .int rfl rfl ?_
      refine ⟨_, rfl, ?_, rfl, hi_rf _, rfl, rfl⟩
      first | rw [cd_res, cif_f hc] | (rw [cd_res, cif_t hc, nj2, ni2]; rfl)
theorem c_X11_code (S : St_m sh P) (V : Inv (rs I))  (x y : Int32): am_R mX11_code (mpo sh P I (cd_res (rs I) x y) (rs I)) 1 22 0 0 0 [some (.ref 0), some (.int x), some (.int y)] [] sh I P := by
  refine r_aload_n dX11_code_0 rfl ?_
  refine r_iconst dX11_code_1 (v := nI 0) kc_0 ?_
  refine r_putI dX11_code_2 f_X11_134 (S.1 _ _ rfl) rfl rfl rfl ?_
  have e : rs (va_up I 0 (upd (I 0) 0 (nI 0))) = rs I := rs_no rfl
  have h := b_X11_code (I := va_up I 0 (upd (I 0) 0 (nI 0))) S (by rw [e]; exact V) x y
  rw [e] at h
  exact mpo_z h
theorem b_X11_bytes (S : St_m sh P) (V : Inv (rs I))  (x : Int32): am_R mX11_bytes (mpo sh P I (by_res (rs I) x) (rs I)) 1 22 0 0 5 [some (.ref 0), some (.int x)] [] sh I P := by
  refine r_aload_n dX11_bytes_5 rfl ?_
  refine r_getP dX11_bytes_6 g_X11_40 (S.1 _ _ rfl) rfl (S.2 _ _ _ rfl) ?_
  refine r_iconst dX11_bytes_9 (v := nI 0) kc_0 ?_
  refine r_iaload _ dX11_bytes_10 (S.1 _ _ rfl) rfl (by first | decide | omega) (by decide) ?_
  refine r_iconst dX11_bytes_11 (v := (-1)) kc_m1 ?_
  refine r_icmp_eq 40 dX11_bytes_12 (by decide) (fun h12 => ?_) (fun h12 => ?_)
  · have hc : ¬ (rs I 11 0 ≠ -1 ∧ inR x (nv (rs I 13 0))) := fun h => h.1 h12
    refine r_iconst dX11_bytes_40 (v := (-1)) kc_m1 ?_
    refine r_ireturn dX11_bytes_41 .int rfl rfl ?_
    refine ⟨_, rfl, ?_, rfl, hi_rf _, rfl, rfl⟩
    first | rw [by_res, cif_f hc] | (rw [by_res, cif_t hc, nj2]; rfl)
  · have e13 : isN (I 13 0) 80 := by
      rcases V.2.2.1 with h | h
      · exact absurd h h12
      · exact h.2.2.1
    refine r_iload_n dX11_bytes_15 rfl ?_
    refine r_iconst dX11_bytes_16 (v := nI 0) kc_0 ?_
    refine r_aload_n dX11_bytes_17 rfl ?_
    refine r_getP dX11_bytes_18 g_X11_46 (S.1 _ _ rfl) rfl (S.2 _ _ _ rfl) ?_
    refine r_iconst dX11_bytes_21 (v := nI 0) kc_0 ?_
    refine r_iaload _ dX11_bytes_22 (S.1 _ _ rfl) rfl (by first | decide | omega) (by decide) ?_
    refine r_iconst dX11_bytes_23 (v := nI 1) kc_1 ?_
    refine r_isub dX11_bytes_24 ?_
    refine r_callS3 (fr' := 0) (lo' := 0) (mc' := 0) (ms' := 0) dX11_bytes_25 mm_X11_in ms_X11_in l_X11_142 (by decide) ⟨by decide, by decide⟩ (Nat.zero_le _) (Nat.zero_le _) (Nat.le_of_ble_eq_true rfl) (c_X11_in _ _ _) (am_ki ?_)
    rintro v25 _ _ _ ⟨hb25, rfl, rfl, rfl⟩
    refine r_if_eq 40 dX11_bytes_28 (by decide) (fun h28 => ?_) (fun h28 => ?_)
    · replace h28 := hb25.f h28
      have hc : ¬ (rs I 11 0 ≠ -1 ∧ inR x (nv (rs I 13 0))) := fun h => h28 ((in_iffN (Or.inr e13) (by decide)).mpr h.2)
      refine r_iconst dX11_bytes_40 (v := (-1)) kc_m1 ?_
      refine r_ireturn dX11_bytes_41 .int rfl rfl ?_
      refine ⟨_, rfl, ?_, rfl, hi_rf _, rfl, rfl⟩
      first | rw [by_res, cif_f hc] | (rw [by_res, cif_t hc, nj2]; rfl)
    · replace h28 := hb25.t h28
      have h28 := (in_iffN (Or.inr e13) (by decide)).mp h28
      obtain ⟨j, hj, rfl⟩ := id h28
      have b6 := e13.2
      have nj2 : nv (nI j) = j := nv_nI (by omega)
      have hc : rs I 11 0 ≠ -1 ∧ inR (nI j) (nv (rs I 13 0)) := ⟨h12, h28⟩
      refine r_aload_n dX11_bytes_31 rfl ?_
      refine r_getP dX11_bytes_32 g_X11_49 (S.1 _ _ rfl) rfl (S.2 _ _ _ rfl) ?_
      refine r_iload_n dX11_bytes_35 rfl ?_
      refine r_iaload _ dX11_bytes_36 (S.1 _ _ rfl) rfl (by first | decide | omega) (by decide) ?_
      refine r_goto 41 dX11_bytes_37 (by decide) ?_
      refine r_ireturn dX11_bytes_41 .int rfl rfl ?_
      refine ⟨_, rfl, ?_, rfl, hi_rf _, rfl, rfl⟩
      first | rw [by_res, cif_f hc] | (rw [by_res, cif_t hc, nj2]; rfl)
theorem c_X11_bytes (S : St_m sh P) (V : Inv (rs I))  (x : Int32): am_R mX11_bytes (mpo sh P I (by_res (rs I) x) (rs I)) 1 22 0 0 0 [some (.ref 0), some (.int x)] [] sh I P := by
  refine r_aload_n dX11_bytes_0 rfl ?_
  refine r_iconst dX11_bytes_1 (v := nI 0) kc_0 ?_
  refine r_putI dX11_bytes_2 f_X11_134 (S.1 _ _ rfl) rfl rfl rfl ?_
  have e : rs (va_up I 0 (upd (I 0) 0 (nI 0))) = rs I := rs_no rfl
  have h := b_X11_bytes (I := va_up I 0 (upd (I 0) 0 (nI 0))) S (by rw [e]; exact V) x
  rw [e] at h
  exact mpo_z h
theorem b_X11_ran (S : St_m sh P) (V : Inv (rs I))  (x : Int32): am_R mX11_ran (mpo sh P I (ra_res (rs I) x) (rs I)) 0 0 0 0 5 [some (.ref 0), some (.int x)] [] sh I P := by
  refine r_aload_n dX11_ran_5 rfl ?_
  refine r_getP dX11_ran_6 g_X11_52 (S.1 _ _ rfl) rfl (S.2 _ _ _ rfl) ?_
  refine r_iconst dX11_ran_9 (v := nI 0) kc_0 ?_
  refine r_iaload _ dX11_ran_10 (S.1 _ _ rfl) rfl (by first | decide | omega) (by decide) ?_
  refine r_iconst dX11_ran_11 (v := (-1)) kc_m1 ?_
  refine r_icmp_ne 17 dX11_ran_12 (by decide) (fun h12 => ?_) (fun h12 => ?_)
  · have r12 : ¬ rs I 15 0 = -1 := h12
    refine r_iload_n dX11_ran_17 rfl ?_
    rcases sw_4 x with rfl | rfl | rfl | rfl | rfl | ⟨hz, hx⟩
    · refine r_tabIn (off := 34) 52 dX11_ran_18 (by decide) (by decide) (by decide) (by decide) ?_
      refine r_aload_n dX11_ran_52 rfl ?_
      refine r_getP dX11_ran_53 g_X11_55 (S.1 _ _ rfl) rfl (S.2 _ _ _ rfl) ?_
      refine r_iconst dX11_ran_56 (v := nI 0) kc_0 ?_
      refine r_iaload _ dX11_ran_57 (S.1 _ _ rfl) rfl (by first | decide | omega) (by decide) ?_
      refine r_ireturn dX11_ran_58 .int rfl rfl ?_
      refine ⟨_, rfl, ?_, rfl, hi_rf _, rfl, rfl⟩
      rw [ra_res, if_neg r12]
      rfl
    · refine r_tabIn (off := 41) 59 dX11_ran_18 (by decide) (by decide) (by decide) (by decide) ?_
      refine r_aload_n dX11_ran_59 rfl ?_
      refine r_getP dX11_ran_60 g_X11_58 (S.1 _ _ rfl) rfl (S.2 _ _ _ rfl) ?_
      refine r_iconst dX11_ran_63 (v := nI 0) kc_0 ?_
      refine r_iaload _ dX11_ran_64 (S.1 _ _ rfl) rfl (by first | decide | omega) (by decide) ?_
      refine r_ireturn dX11_ran_65 .int rfl rfl ?_
      refine ⟨_, rfl, ?_, rfl, hi_rf _, rfl, rfl⟩
      rw [ra_res, if_neg r12]
      rfl
    · refine r_tabIn (off := 48) 66 dX11_ran_18 (by decide) (by decide) (by decide) (by decide) ?_
      refine r_aload_n dX11_ran_66 rfl ?_
      refine r_getP dX11_ran_67 g_X11_64 (S.1 _ _ rfl) rfl (S.2 _ _ _ rfl) ?_
      refine r_iconst dX11_ran_70 (v := nI 0) kc_0 ?_
      refine r_iaload _ dX11_ran_71 (S.1 _ _ rfl) rfl (by first | decide | omega) (by decide) ?_
      refine r_ireturn dX11_ran_72 .int rfl rfl ?_
      refine ⟨_, rfl, ?_, rfl, hi_rf _, rfl, rfl⟩
      rw [ra_res, if_neg r12]
      rfl
    · refine r_tabIn (off := 55) 73 dX11_ran_18 (by decide) (by decide) (by decide) (by decide) ?_
      refine r_aload_n dX11_ran_73 rfl ?_
      refine r_getP dX11_ran_74 g_X11_70 (S.1 _ _ rfl) rfl (S.2 _ _ _ rfl) ?_
      refine r_iconst dX11_ran_77 (v := nI 0) kc_0 ?_
      refine r_iaload _ dX11_ran_78 (S.1 _ _ rfl) rfl (by first | decide | omega) (by decide) ?_
      refine r_ireturn dX11_ran_79 .int rfl rfl ?_
      refine ⟨_, rfl, ?_, rfl, hi_rf _, rfl, rfl⟩
      rw [ra_res, if_neg r12]
      rfl
    · refine r_tabIn (off := 62) 80 dX11_ran_18 (by decide) (by decide) (by decide) (by decide) ?_
      refine r_aload_n dX11_ran_80 rfl ?_
      refine r_getP dX11_ran_81 g_X11_61 (S.1 _ _ rfl) rfl (S.2 _ _ _ rfl) ?_
      refine r_iconst dX11_ran_84 (v := nI 0) kc_0 ?_
      refine r_iaload _ dX11_ran_85 (S.1 _ _ rfl) rfl (by first | decide | omega) (by decide) ?_
      refine r_ireturn dX11_ran_86 .int rfl rfl ?_
      refine ⟨_, rfl, ?_, rfl, hi_rf _, rfl, rfl⟩
      rw [ra_res, if_neg r12]
      rfl
    · refine r_tabOut 87 dX11_ran_18 hx (by decide) ?_
      refine r_iconst dX11_ran_87 (v := (-1)) kc_m1 ?_
      refine r_ireturn dX11_ran_88 .int rfl rfl ?_
      refine ⟨_, rfl, ?_, rfl, hi_rf _, rfl, rfl⟩
      have hz0 : x ≠ nI 0 := fun h => hz (Or.inl h)
      have hz1 : x ≠ nI 1 := fun h => hz (Or.inr (Or.inl h))
      have hz2 : x ≠ nI 2 := fun h => hz (Or.inr (Or.inr (Or.inl h)))
      have hz3 : x ≠ nI 3 := fun h => hz (Or.inr (Or.inr (Or.inr (Or.inl h))))
      have hz4 : x ≠ nI 4 := fun h => hz (Or.inr (Or.inr (Or.inr (Or.inr (h)))))
      rw [ra_res, if_neg r12, if_neg hz0, if_neg hz1, if_neg hz2, if_neg hz3, if_neg hz4]
  · have r12 : rs I 15 0 = -1 := h12
    refine r_iconst dX11_ran_15 (v := (-1)) kc_m1 ?_
    refine r_ireturn dX11_ran_16 .int rfl rfl ?_
    refine ⟨_, rfl, ?_, rfl, hi_rf _, rfl, rfl⟩
    rw [ra_res, if_pos r12]
theorem c_X11_ran (S : St_m sh P) (V : Inv (rs I))  (x : Int32): am_R mX11_ran (mpo sh P I (ra_res (rs I) x) (rs I)) 0 0 0 0 0 [some (.ref 0), some (.int x)] [] sh I P := by
  refine r_aload_n dX11_ran_0 rfl ?_
  refine r_iconst dX11_ran_1 (v := nI 0) kc_0 ?_
  refine r_putI dX11_ran_2 f_X11_134 (S.1 _ _ rfl) rfl rfl rfl ?_
  have e : rs (va_up I 0 (upd (I 0) 0 (nI 0))) = rs I := rs_no rfl
  have h := b_X11_ran (I := va_up I 0 (upd (I 0) 0 (nI 0))) S (by rw [e]; exact V) x
  rw [e] at h
  exact mpo_z h
theorem b_X11_had (S : St_m sh P) (V : Inv (rs I))  (x y : Int32): am_R mX11_had (mpo sh P I (ha_res (rs I) x y) (rs I)) 1 22 0 0 5 [some (.ref 0), some (.int x), some (.int y)] [] sh I P := by
  refine r_aload_n dX11_had_5 rfl ?_
  refine r_getP dX11_had_6 g_X11_52 (S.1 _ _ rfl) rfl (S.2 _ _ _ rfl) ?_
  refine r_iconst dX11_had_9 (v := nI 0) kc_0 ?_
  refine r_iaload _ dX11_had_10 (S.1 _ _ rfl) rfl (by first | decide | omega) (by decide) ?_
  refine r_iconst dX11_had_11 (v := (-1)) kc_m1 ?_
  refine r_icmp_ne 17 dX11_had_12 (by decide) (fun h12 => ?_) (fun h12 => ?_)
  · have r12 : ¬ rs I 15 0 = -1 := h12
    have eR : isN (I 15 0) 3 ∧ isN (I 19 0) 24 ∧ isN (I 21 0) 40 := by
      rcases V.2.2.2.1 with h | h
      · exact absurd h h12
      · exact h
    refine r_iload_n dX11_had_17 rfl ?_
    rcases sw_2 x with rfl | rfl | rfl | ⟨hz, hx⟩
    · refine r_tabIn (off := 26) 44 dX11_had_18 (by decide) (by decide) (by decide) (by decide) ?_
      refine r_iload_n dX11_had_44 rfl ?_
      refine r_iconst dX11_had_45 (v := nI 0) kc_0 ?_
      refine r_aload_n dX11_had_46 rfl ?_
      refine r_getP dX11_had_47 g_X11_64 (S.1 _ _ rfl) rfl (S.2 _ _ _ rfl) ?_
      refine r_iconst dX11_had_50 (v := nI 0) kc_0 ?_
      refine r_iaload _ dX11_had_51 (S.1 _ _ rfl) rfl (by first | decide | omega) (by decide) ?_
      refine r_iconst dX11_had_52 (v := nI 1) kc_1 ?_
      refine r_isub dX11_had_53 ?_
      refine r_callS3 (fr' := 0) (lo' := 0) (mc' := 0) (ms' := 0) dX11_had_54 mm_X11_in ms_X11_in l_X11_142 (by decide) ⟨by decide, by decide⟩ (Nat.zero_le _) (Nat.zero_le _) (Nat.le_of_ble_eq_true rfl) (c_X11_in _ _ _) (am_ki ?_)
      rintro v54 _ _ _ ⟨hb54, rfl, rfl, rfl⟩
      refine r_if_eq 69 dX11_had_57 (by decide) (fun h57 => ?_) (fun h57 => ?_)
      · replace h57 := hb54.f h57
        have hc : ¬ inR y (nv (rs I 19 0)) := fun h => h57 ((in_iffN (Or.inr eR.2.1) (by decide)).mpr h)
        refine r_iconst dX11_had_69 (v := nI 0) kc_0 ?_
        refine r_ireturn dX11_had_70 .int rfl rfl ?_
        refine ⟨_, rfl, ?_, rfl, hi_rf _, rfl, rfl⟩
        rw [ha_res, if_neg r12]
        show _ = cif (inR _ (nv (rs I 19 0))) (rs I 20 (nv _)) (nI 0)
        first | rw [cif_f hc] | (rw [cif_t hc, nj2]; rfl)
      · replace h57 := hb54.t h57
        have hc : inR y (nv (rs I 19 0)) := (in_iffN (Or.inr eR.2.1) (by decide)).mp h57
        obtain ⟨j, hj, rfl⟩ := id hc
        have b : nv (I 19 0) ≤ 24 := eR.2.1.2
        have hj2 : j < nv (I 19 0) := hj
        have nj2 : nv (nI j) = j := nv_nI (by omega)
        refine r_aload_n dX11_had_60 rfl ?_
        refine r_getP dX11_had_61 g_X11_67 (S.1 _ _ rfl) rfl (S.2 _ _ _ rfl) ?_
        refine r_iload_n dX11_had_64 rfl ?_
        refine r_iaload _ dX11_had_65 (S.1 _ _ rfl) rfl (by first | decide | omega) (by decide) ?_
        refine r_goto 70 dX11_had_66 (by decide) ?_
        refine r_ireturn dX11_had_70 .int rfl rfl ?_
        refine ⟨_, rfl, ?_, rfl, hi_rf _, rfl, rfl⟩
        rw [ha_res, if_neg r12]
        show _ = cif (inR _ (nv (rs I 19 0))) (rs I 20 (nv _)) (nI 0)
        first | rw [cif_f hc] | (rw [cif_t hc, nj2]; rfl)
    · refine r_tabIn (off := 53) 71 dX11_had_18 (by decide) (by decide) (by decide) (by decide) ?_
      refine r_iload_n dX11_had_71 rfl ?_
      refine r_iconst dX11_had_72 (v := nI 0) kc_0 ?_
      refine r_aload_n dX11_had_73 rfl ?_
      refine r_getP dX11_had_74 g_X11_70 (S.1 _ _ rfl) rfl (S.2 _ _ _ rfl) ?_
      refine r_iconst dX11_had_77 (v := nI 0) kc_0 ?_
      refine r_iaload _ dX11_had_78 (S.1 _ _ rfl) rfl (by first | decide | omega) (by decide) ?_
      refine r_iconst dX11_had_79 (v := nI 1) kc_1 ?_
      refine r_isub dX11_had_80 ?_
      refine r_callS3 (fr' := 0) (lo' := 0) (mc' := 0) (ms' := 0) dX11_had_81 mm_X11_in ms_X11_in l_X11_142 (by decide) ⟨by decide, by decide⟩ (Nat.zero_le _) (Nat.zero_le _) (Nat.le_of_ble_eq_true rfl) (c_X11_in _ _ _) (am_ki ?_)
      rintro v81 _ _ _ ⟨hb81, rfl, rfl, rfl⟩
      refine r_if_eq 96 dX11_had_84 (by decide) (fun h84 => ?_) (fun h84 => ?_)
      · replace h84 := hb81.f h84
        have hc : ¬ inR y (nv (rs I 21 0)) := fun h => h84 ((in_iffN (Or.inr eR.2.2) (by decide)).mpr h)
        refine r_iconst dX11_had_96 (v := nI 0) kc_0 ?_
        refine r_ireturn dX11_had_97 .int rfl rfl ?_
        refine ⟨_, rfl, ?_, rfl, hi_rf _, rfl, rfl⟩
        rw [ha_res, if_neg r12]
        show _ = cif (inR _ (nv (rs I 21 0))) (rs I 22 (nv _)) (nI 0)
        first | rw [cif_f hc] | (rw [cif_t hc, nj2]; rfl)
      · replace h84 := hb81.t h84
        have hc : inR y (nv (rs I 21 0)) := (in_iffN (Or.inr eR.2.2) (by decide)).mp h84
        obtain ⟨j, hj, rfl⟩ := id hc
        have b : nv (I 21 0) ≤ 40 := eR.2.2.2
        have hj2 : j < nv (I 21 0) := hj
        have nj2 : nv (nI j) = j := nv_nI (by omega)
        refine r_aload_n dX11_had_87 rfl ?_
        refine r_getP dX11_had_88 g_X11_73 (S.1 _ _ rfl) rfl (S.2 _ _ _ rfl) ?_
        refine r_iload_n dX11_had_91 rfl ?_
        refine r_iaload _ dX11_had_92 (S.1 _ _ rfl) rfl (by first | decide | omega) (by decide) ?_
        refine r_goto 97 dX11_had_93 (by decide) ?_
        refine r_ireturn dX11_had_97 .int rfl rfl ?_
        refine ⟨_, rfl, ?_, rfl, hi_rf _, rfl, rfl⟩
        rw [ha_res, if_neg r12]
        show _ = cif (inR _ (nv (rs I 21 0))) (rs I 22 (nv _)) (nI 0)
        first | rw [cif_f hc] | (rw [cif_t hc, nj2]; rfl)
    · refine r_tabIn (off := 80) 98 dX11_had_18 (by decide) (by decide) (by decide) (by decide) ?_
      refine r_iload_n dX11_had_98 rfl ?_
      refine r_iconst dX11_had_99 (v := nI 0) kc_0 ?_
      refine r_bipush dX11_had_100 (v := nI 7) (by decide) ?_
      refine r_callS3 (fr' := 0) (lo' := 0) (mc' := 0) (ms' := 0) dX11_had_102 mm_X11_in ms_X11_in l_X11_142 (by decide) ⟨by decide, by decide⟩ (Nat.zero_le _) (Nat.zero_le _) (Nat.le_of_ble_eq_true rfl) (c_X11_in _ _ _) (am_ki ?_)
      rintro v102 _ _ _ ⟨hb102, rfl, rfl, rfl⟩
      refine r_if_eq 117 dX11_had_105 (by decide) (fun h105 => ?_) (fun h105 => ?_)
      · replace h105 := hb102.f h105
        have hc : ¬ inR y 8 := fun h => h105 ((in_iff (by decide)).mpr (by obtain ⟨w, hw, e⟩ := h; exact ⟨w, by omega, e⟩))
        refine r_iconst dX11_had_117 (v := nI 0) kc_0 ?_
        refine r_ireturn dX11_had_118 .int rfl rfl ?_
        refine ⟨_, rfl, ?_, rfl, hi_rf _, rfl, rfl⟩
        rw [ha_res, if_neg r12]
        show _ = cif (inR _ 8) (rs I 23 (nv _)) (nI 0)
        first | rw [cif_f hc] | (rw [cif_t hc, nj2]; rfl)
      · replace h105 := hb102.t h105
        obtain ⟨j, hj, rfl⟩ := (in_iff (by decide)).mp h105
        have hc : inR (nI j) 8 := inR_nI (by omega)
        have nj2 : nv (nI j) = j := nv_nI (by omega)
        refine r_aload_n dX11_had_108 rfl ?_
        refine r_getP dX11_had_109 g_X11_76 (S.1 _ _ rfl) rfl (S.2 _ _ _ rfl) ?_
        refine r_iload_n dX11_had_112 rfl ?_
        refine r_iaload _ dX11_had_113 (S.1 _ _ rfl) rfl (by first | decide | omega) (by decide) ?_
        refine r_goto 118 dX11_had_114 (by decide) ?_
        refine r_ireturn dX11_had_118 .int rfl rfl ?_
        refine ⟨_, rfl, ?_, rfl, hi_rf _, rfl, rfl⟩
        rw [ha_res, if_neg r12]
        show _ = cif (inR _ 8) (rs I 23 (nv _)) (nI 0)
        first | rw [cif_f hc] | (rw [cif_t hc, nj2]; rfl)
    · refine r_tabOut 119 dX11_had_18 hx (by decide) ?_
      refine r_iconst dX11_had_119 (v := nI 0) kc_0 ?_
      refine r_ireturn dX11_had_120 .int rfl rfl ?_
      refine ⟨_, rfl, ?_, rfl, hi_rf _, rfl, rfl⟩
      have hz0 : x ≠ nI 0 := fun h => hz (Or.inl h)
      have hz1 : x ≠ nI 1 := fun h => hz (Or.inr (Or.inl h))
      have hz2 : x ≠ nI 2 := fun h => hz (Or.inr (Or.inr (h)))
      rw [ha_res, if_neg r12, if_neg hz0, if_neg hz1, if_neg hz2]
  · have r12 : rs I 15 0 = -1 := h12
    refine r_iconst dX11_had_15 (v := nI 0) kc_0 ?_
    refine r_ireturn dX11_had_16 .int rfl rfl ?_
    refine ⟨_, rfl, ?_, rfl, hi_rf _, rfl, rfl⟩
    rw [ha_res, if_pos r12]
theorem c_X11_had (S : St_m sh P) (V : Inv (rs I))  (x y : Int32): am_R mX11_had (mpo sh P I (ha_res (rs I) x y) (rs I)) 1 22 0 0 0 [some (.ref 0), some (.int x), some (.int y)] [] sh I P := by
  refine r_aload_n dX11_had_0 rfl ?_
  refine r_iconst dX11_had_1 (v := nI 0) kc_0 ?_
  refine r_putI dX11_had_2 f_X11_134 (S.1 _ _ rfl) rfl rfl rfl ?_
  have e : rs (va_up I 0 (upd (I 0) 0 (nI 0))) = rs I := rs_no rfl
  have h := b_X11_had (I := va_up I 0 (upd (I 0) 0 (nI 0))) S (by rw [e]; exact V) x y
  rw [e] at h
  exact mpo_z h
theorem b_X11_chosen (S : St_m sh P) (V : Inv (rs I))  (x y : Int32): am_R mX11_chosen (mpo sh P I (ch_res (rs I) x y) (rs I)) 1 22 0 0 5 [some (.ref 0), some (.int x), some (.int y)] [] sh I P := by
  have e6 : I 24 0 = -1 ∨ isN (I 24 0) 2 := by
    rcases V.2.2.2.2.1 with h | h
    · exact Or.inl h
    · exact Or.inr h.1
  refine r_iload_n dX11_chosen_5 rfl ?_
  refine r_iconst dX11_chosen_6 (v := nI 0) kc_0 ?_
  refine r_aload_n dX11_chosen_7 rfl ?_
  refine r_getP dX11_chosen_8 g_X11_79 (S.1 _ _ rfl) rfl (S.2 _ _ _ rfl) ?_
  refine r_iconst dX11_chosen_11 (v := nI 0) kc_0 ?_
  refine r_iaload _ dX11_chosen_12 (S.1 _ _ rfl) rfl (by first | decide | omega) (by decide) ?_
  refine r_iconst dX11_chosen_13 (v := nI 1) kc_1 ?_
  refine r_isub dX11_chosen_14 ?_
  refine r_callS3 (fr' := 0) (lo' := 0) (mc' := 0) (ms' := 0) dX11_chosen_15 mm_X11_in ms_X11_in l_X11_142 (by decide) ⟨by decide, by decide⟩ (Nat.zero_le _) (Nat.zero_le _) (Nat.le_of_ble_eq_true rfl) (c_X11_in _ _ _) (am_ki ?_)
  rintro v15 _ _ _ ⟨hb15, rfl, rfl, rfl⟩
  refine r_if_eq 54 dX11_chosen_18 (by decide) (fun h18 => ?_) (fun h18 => ?_)
  · replace h18 := hb15.f h18
    have hc : ¬ (inR x (nv (rs I 24 0)) ∧ inR y (nv (rs I 25 (5 * nv x)))) := fun h => h18 ((in_iffN e6 (by decide)).mpr h.1)
    refine r_iconst dX11_chosen_54 (v := (-1)) kc_m1 ?_
    refine r_ireturn dX11_chosen_55 .int rfl rfl ?_
    refine ⟨_, rfl, ?_, rfl, hi_rf _, rfl, rfl⟩
    first | rw [ch_res, cif_f hc] | (rw [ch_res, cif_t hc, nj2, ni2]; rfl)
  · replace h18 := hb15.t h18
    have h18 := (in_iffN e6 (by decide)).mp h18
    obtain ⟨j, hj, rfl⟩ := id h18
    have b6 : nv (I 24 0) ≤ 2 := by
      rcases e6 with h | h
      · rw [h, nv_m1]; omega
      · exact h.2
    have nj2 : nv (nI j) = j := nv_nI (by omega)
    have hO : jOk (I 25) (5 * j) := by
      rcases V.2.2.2.2.1 with h | h
      · exfalso; have h : I 24 0 = -1 := h; rw [h, nv_m1] at hj; omega
      · exact h.2.1 j hj
    refine r_iload_n dX11_chosen_21 rfl ?_
    refine r_iconst dX11_chosen_22 (v := nI 0) kc_0 ?_
    refine r_aload_n dX11_chosen_23 rfl ?_
    refine r_getP dX11_chosen_24 g_X11_82 (S.1 _ _ rfl) rfl (S.2 _ _ _ rfl) ?_
    refine r_iconst dX11_chosen_27 (v := nI 5) kc_5 ?_
    refine r_iload_n dX11_chosen_28 rfl ?_
    first | refine r_imulN dX11_chosen_29 ?_ | refine r_imul dX11_chosen_29 ?_
    refine r_iaload (5 * j) dX11_chosen_30 (S.1 _ _ rfl) rfl (by first | decide | omega) (by decide) ?_
    refine r_iconst dX11_chosen_31 (v := nI 1) kc_1 ?_
    refine r_isub dX11_chosen_32 ?_
    refine r_callS3 (fr' := 0) (lo' := 0) (mc' := 0) (ms' := 0) dX11_chosen_33 mm_X11_in ms_X11_in l_X11_142 (by decide) ⟨by decide, by decide⟩ (Nat.zero_le _) (Nat.zero_le _) (Nat.le_of_ble_eq_true rfl) (c_X11_in _ _ _) (am_ki ?_)
    rintro v33 _ _ _ ⟨hb33, rfl, rfl, rfl⟩
    refine r_if_eq 54 dX11_chosen_36 (by decide) (fun h36 => ?_) (fun h36 => ?_)
    · replace h36 := hb33.f h36
      have hc : ¬ (inR (nI j) (nv (rs I 24 0)) ∧ inR y (nv (rs I 25 (5 * nv (nI j))))) := fun h => h36 ((in_iffN (Or.inr hO.1.2) (by decide)).mpr (by have h9 := h.2; rw [nj2] at h9; exact h9))
      refine r_iconst dX11_chosen_54 (v := (-1)) kc_m1 ?_
      refine r_ireturn dX11_chosen_55 .int rfl rfl ?_
      refine ⟨_, rfl, ?_, rfl, hi_rf _, rfl, rfl⟩
      first | rw [ch_res, cif_f hc] | (rw [ch_res, cif_t hc, nj2, ni2]; rfl)
    · replace h36 := hb33.t h36
      have h36 := (in_iffN (Or.inr hO.1.2) (by decide)).mp h36
      obtain ⟨i, hi2, rfl⟩ := id h36
      have b7 := hO.1.2.2
      have ni2 : nv (nI i) = i := nv_nI (by omega)
      have hc : inR (nI j) (nv (rs I 24 0)) ∧ inR (nI i) (nv (rs I 25 (5 * nv (nI j)))) := ⟨h18, by rw [nj2]; exact h36⟩
      refine r_aload_n dX11_chosen_39 rfl ?_
      refine r_getP dX11_chosen_40 g_X11_82 (S.1 _ _ rfl) rfl (S.2 _ _ _ rfl) ?_
      refine r_iconst dX11_chosen_43 (v := nI 5) kc_5 ?_
      refine r_iload_n dX11_chosen_44 rfl ?_
      first | refine r_imulN dX11_chosen_45 ?_ | refine r_imul dX11_chosen_45 ?_
      refine r_iconst dX11_chosen_46 (v := nI 1) kc_1 ?_
      first | refine r_iaddN dX11_chosen_47 ?_ | refine r_iadd dX11_chosen_47 ?_
      refine r_iload_n dX11_chosen_48 rfl ?_
      first | refine r_iaddN dX11_chosen_49 ?_ | refine r_iadd dX11_chosen_49 ?_
      refine r_iaload (5 * j + 1 + i) dX11_chosen_50 (S.1 _ _ rfl) rfl (by first | decide | omega) (by decide) ?_
      refine r_goto 55 dX11_chosen_51 (by decide) ?_
      refine r_ireturn dX11_chosen_55 .int rfl rfl ?_
      refine ⟨_, rfl, ?_, rfl, hi_rf _, rfl, rfl⟩
      first | rw [ch_res, cif_f hc] | (rw [ch_res, cif_t hc, nj2, ni2]; rfl)
theorem c_X11_chosen (S : St_m sh P) (V : Inv (rs I))  (x y : Int32): am_R mX11_chosen (mpo sh P I (ch_res (rs I) x y) (rs I)) 1 22 0 0 0 [some (.ref 0), some (.int x), some (.int y)] [] sh I P := by
  refine r_aload_n dX11_chosen_0 rfl ?_
  refine r_iconst dX11_chosen_1 (v := nI 0) kc_0 ?_
  refine r_putI dX11_chosen_2 f_X11_134 (S.1 _ _ rfl) rfl rfl rfl ?_
  have e : rs (va_up I 0 (upd (I 0) 0 (nI 0))) = rs I := rs_no rfl
  have h := b_X11_chosen (I := va_up I 0 (upd (I 0) 0 (nI 0))) S (by rw [e]; exact V) x y
  rw [e] at h
  exact mpo_z h
end M3
end
section
/-! the reference: count, take, feed, images -/
section M4
variable {sh : ASh} {I : AIn} {P : APt}
theorem in_iffG {x : Int32} {a b : Nat} (hb : b < 2147483648) : (nI a ≤ x ∧ x ≤ nI b) ↔ ∃ j : Nat, (a ≤ j ∧ j ≤ b ∧ a < 2147483648 ∨ (2147483648 ≤ a ∧ nI a ≤ nI j ∧ j ≤ b)) ∧ x = nI j ∧ j < 2147483648 ∨ (x < 0 ∧ nI a ≤ x ∧ x ≤ nI b) := by
  constructor
  · rintro ⟨h1, h2⟩
    by_cases h0 : x < 0
    · exact ⟨0, Or.inr ⟨h0, h1, h2⟩⟩
    · obtain ⟨j, hj, rfl⟩ := nI_of h0
      refine ⟨j, Or.inl ⟨?_, rfl, hj⟩⟩
      have h2 := (nI_leI hj hb).mp h2
      by_cases ha : a < 2147483648
      · exact Or.inl ⟨(nI_leI ha hj).mp h1, h2, ha⟩
      · exact Or.inr ⟨by omega, h1, h2⟩
  · rintro ⟨j, (⟨(⟨h1, h2, h3⟩ | ⟨h1, h2, h3⟩), rfl, h4⟩ | ⟨h1, h2, h3⟩)⟩
    · exact ⟨(nI_leI h3 h4).mpr h1, (nI_leI h4 hb).mpr h2⟩
    · exact ⟨h2, (nI_leI h4 hb).mpr h3⟩
    · exact ⟨h2, h3⟩
theorem in_ab {x : Int32} {a b : Nat} (ha : a < 2147483648) (hb : b < 2147483648) : (nI a ≤ x ∧ x ≤ nI b) ↔ ∃ j : Nat, a ≤ j ∧ j ≤ b ∧ x = nI j := by
  constructor
  · rintro ⟨h1, h2⟩
    have h0 : ¬ x < 0 := by
      have h3 : nI 0 ≤ nI a := nI_le (Nat.zero_le _) ha
      have h4 := Int32.le_trans h3 h1
      rw [nI_0] at h4
      exact Int32.not_lt.mpr h4
    obtain ⟨j, hj, rfl⟩ := nI_of h0
    exact ⟨j, (nI_leI ha hj).mp h1, (nI_leI hj hb).mp h2, rfl⟩
  · rintro ⟨j, h1, h2, rfl⟩
    exact ⟨nI_le h1 (by omega), nI_le h2 hb⟩
theorem up_sw {α : Type} {f : Nat → α} {i j : Nat} {a b : α} (h : i ≠ j) : va_up (va_up f i a) j b = va_up (va_up f j b) i a := by
  funext k
  by_cases h1 : k = i
  · by_cases h2 : k = j
    · exact absurd (h1.symm.trans h2) h
    · simp [va_up, h1, h]
  · by_cases h2 : k = j
    · simp [va_up, h2, Ne.symm h]
    · simp [va_up, h1, h2]
theorem fl_step (f g : Nat → Int32) (b k : Nat) : upd (fun j => if b ≤ j ∧ j < b + k then f (j - b) else g j) (b + k) (f k) = fun j => if b ≤ j ∧ j < b + (k + 1) then f (j - b) else g j := by
  funext j
  by_cases h : j = b + k
  · subst h
    simp [upd]
  · have h2 : (b ≤ j ∧ j < b + k) ↔ (b ≤ j ∧ j < b + (k + 1)) := by omega
    simp only [upd, h, if_false, h2]
theorem fl0_step (f g : Nat → Int32) (k : Nat) : upd (fun j => if j < k then f j else g j) k (f k) = fun j => if j < k + 1 then f j else g j := by
  funext j
  by_cases h : j = k
  · subst h
    simp [upd]
  · have h2 : j < k ↔ j < k + 1 := by omega
    simp only [upd, h, if_false, h2]
theorem fa_twice (f : Nat → Int32) (i : Nat) (x y : Int32) : upd (upd f i x) i y = upd f i y := by
  funext j
  by_cases h : j = i <;> simp [upd, h]
theorem b_X11_count (S : St_m sh P) (V : Inv (rs I))  (x : Int32): am_R mX11_count (mpo sh P I (cn_res (rs I) x) (rs I)) 1 22 0 0 5 [some (.ref 0), some (.int x)] [] sh I P := by
  obtain ⟨e1, b1⟩ := V.1.np
  have e1 : I 1 0 = nI (np (rs I)) := e1
  generalize hN : np (rs I) = N at e1 b1
  refine r_iload_n dX11_count_5 rfl ?_
  rcases sw_5 x with rfl | rfl | rfl | rfl | rfl | rfl | ⟨hz, hx⟩
  · refine r_tabIn (off := 38) 44 dX11_count_6 (by decide) (by decide) (by decide) (by decide) ?_
    refine r_aload_n dX11_count_44 rfl ?_
    refine r_getP dX11_count_45 g_X11_7 (S.1 _ _ rfl) rfl (S.2 _ _ _ rfl) ?_
    refine r_iconst dX11_count_48 (v := nI 0) kc_0 ?_
    refine r_iaload _ dX11_count_49 (S.1 _ _ rfl) rfl (by first | decide | omega) (by decide) ?_
    refine r_ireturn dX11_count_50 .int rfl rfl ?_
    refine ⟨_, rfl, ?_, rfl, hi_rf _, rfl, rfl⟩
    rfl
  · refine r_tabIn (off := 45) 51 dX11_count_6 (by decide) (by decide) (by decide) (by decide) ?_
    refine r_aload_n dX11_count_51 rfl ?_
    refine r_getP dX11_count_52 g_X11_25 (S.1 _ _ rfl) rfl (S.2 _ _ _ rfl) ?_
    refine r_iconst dX11_count_55 (v := nI 0) kc_0 ?_
    refine r_iaload _ dX11_count_56 (S.1 _ _ rfl) rfl (by first | decide | omega) (by decide) ?_
    refine r_ireturn dX11_count_57 .int rfl rfl ?_
    refine ⟨_, rfl, ?_, rfl, hi_rf _, rfl, rfl⟩
    rfl
  · refine r_tabIn (off := 52) 58 dX11_count_6 (by decide) (by decide) (by decide) (by decide) ?_
    refine r_aload_n dX11_count_58 rfl ?_
    refine r_getP dX11_count_59 g_X11_40 (S.1 _ _ rfl) rfl (S.2 _ _ _ rfl) ?_
    refine r_iconst dX11_count_62 (v := nI 0) kc_0 ?_
    refine r_iaload _ dX11_count_63 (S.1 _ _ rfl) rfl (by first | decide | omega) (by decide) ?_
    refine r_ireturn dX11_count_64 .int rfl rfl ?_
    refine ⟨_, rfl, ?_, rfl, hi_rf _, rfl, rfl⟩
    rfl
  · refine r_tabIn (off := 59) 65 dX11_count_6 (by decide) (by decide) (by decide) (by decide) ?_
    refine r_aload_n dX11_count_65 rfl ?_
    refine r_getP dX11_count_66 g_X11_40 (S.1 _ _ rfl) rfl (S.2 _ _ _ rfl) ?_
    refine r_iconst dX11_count_69 (v := nI 0) kc_0 ?_
    refine r_iaload _ dX11_count_70 (S.1 _ _ rfl) rfl (by first | decide | omega) (by decide) ?_
    refine r_iconst dX11_count_71 (v := (-1)) kc_m1 ?_
    refine r_icmp_ne 79 dX11_count_72 (by decide) (fun h72 => ?_) (fun h72 => ?_)
    · refine r_aload_n dX11_count_79 rfl ?_
      refine r_getP dX11_count_80 g_X11_46 (S.1 _ _ rfl) rfl (S.2 _ _ _ rfl) ?_
      refine r_iconst dX11_count_83 (v := nI 0) kc_0 ?_
      refine r_iaload _ dX11_count_84 (S.1 _ _ rfl) rfl (by first | decide | omega) (by decide) ?_
      refine r_ireturn dX11_count_85 .int rfl rfl ?_
      refine ⟨_, rfl, ?_, rfl, hi_rf _, rfl, rfl⟩
      show _ = (if rs I 11 0 = -1 then -1 else rs I 13 0)
      first | (rw [if_pos (show rs I 11 0 = -1 from h72)]) | (rw [if_neg (show ¬ rs I 11 0 = -1 from h72)]; rfl)
    · refine r_iconst dX11_count_75 (v := (-1)) kc_m1 ?_
      refine r_goto 85 dX11_count_76 (by decide) ?_
      refine r_ireturn dX11_count_85 .int rfl rfl ?_
      refine ⟨_, rfl, ?_, rfl, hi_rf _, rfl, rfl⟩
      show _ = (if rs I 11 0 = -1 then -1 else rs I 13 0)
      first | (rw [if_pos (show rs I 11 0 = -1 from h72)]) | (rw [if_neg (show ¬ rs I 11 0 = -1 from h72)]; rfl)
  · refine r_tabIn (off := 80) 86 dX11_count_6 (by decide) (by decide) (by decide) (by decide) ?_
    refine r_aload_n dX11_count_86 rfl ?_
    refine r_getP dX11_count_87 g_X11_79 (S.1 _ _ rfl) rfl (S.2 _ _ _ rfl) ?_
    refine r_iconst dX11_count_90 (v := nI 0) kc_0 ?_
    refine r_iaload _ dX11_count_91 (S.1 _ _ rfl) rfl (by first | decide | omega) (by decide) ?_
    refine r_iconst dX11_count_92 (v := (-1)) kc_m1 ?_
    refine r_icmp_ne 100 dX11_count_93 (by decide) (fun h93 => ?_) (fun h93 => ?_)
    · refine r_aload_n dX11_count_100 rfl ?_
      refine r_getP dX11_count_101 g_X11_79 (S.1 _ _ rfl) rfl (S.2 _ _ _ rfl) ?_
      refine r_iconst dX11_count_104 (v := nI 0) kc_0 ?_
      refine r_iaload _ dX11_count_105 (S.1 _ _ rfl) rfl (by first | decide | omega) (by decide) ?_
      refine r_ireturn dX11_count_106 .int rfl rfl ?_
      refine ⟨_, rfl, ?_, rfl, hi_rf _, rfl, rfl⟩
      show _ = (if rs I 24 0 = -1 then nI 0 else rs I 24 0)
      first | (rw [if_pos (show rs I 24 0 = -1 from h93)]) | (rw [if_neg (show ¬ rs I 24 0 = -1 from h93)]; rfl)
    · refine r_iconst dX11_count_96 (v := nI 0) kc_0 ?_
      refine r_goto 106 dX11_count_97 (by decide) ?_
      refine r_ireturn dX11_count_106 .int rfl rfl ?_
      refine ⟨_, rfl, ?_, rfl, hi_rf _, rfl, rfl⟩
      show _ = (if rs I 24 0 = -1 then nI 0 else rs I 24 0)
      first | (rw [if_pos (show rs I 24 0 = -1 from h93)]) | (rw [if_neg (show ¬ rs I 24 0 = -1 from h93)]; rfl)
  · refine r_tabIn (off := 101) 107 dX11_count_6 (by decide) (by decide) (by decide) (by decide) ?_
    refine r_aload_n dX11_count_107 rfl ?_
    refine r_getP dX11_count_108 g_X11_85 (S.1 _ _ rfl) rfl (S.2 _ _ _ rfl) ?_
    refine r_iconst dX11_count_111 (v := nI 0) kc_0 ?_
    refine r_iaload _ dX11_count_112 (S.1 _ _ rfl) rfl (by first | decide | omega) (by decide) ?_
    refine r_ireturn dX11_count_113 .int rfl rfl ?_
    refine ⟨_, rfl, ?_, rfl, hi_rf _, rfl, rfl⟩
    rfl
  · have hz0 : x ≠ nI 0 := fun h => hz (Or.inl h)
    have hz1 : x ≠ nI 1 := fun h => hz (Or.inr (Or.inl h))
    have hz2 : x ≠ nI 2 := fun h => hz (Or.inr (Or.inr (Or.inl h)))
    have hz3 : x ≠ nI 3 := fun h => hz (Or.inr (Or.inr (Or.inr (Or.inl h))))
    have hz4 : x ≠ nI 4 := fun h => hz (Or.inr (Or.inr (Or.inr (Or.inr (Or.inl h)))))
    have hz5 : x ≠ nI 5 := fun h => hz (Or.inr (Or.inr (Or.inr (Or.inr (Or.inr (h))))))
    have er : cn_res (rs I) x = cif (∃ j, j < np (rs I) ∧ x = nI (10 + j)) (rs I 2 (nv x - 10)) (-1) := by rw [cn_res, if_neg hz0, if_neg hz1, if_neg hz2, if_neg hz3, if_neg hz4, if_neg hz5]
    rw [er]
    clear er hz hz0 hz1 hz2 hz3 hz4 hz5
    refine r_tabOut 114 dX11_count_6 hx (by decide) ?_
    refine r_iload_n dX11_count_114 rfl ?_
    refine r_bipush dX11_count_115 (v := nI 10) (by decide) ?_
    refine r_bipush dX11_count_117 (v := nI 9) (by decide) ?_
    refine r_aload_n dX11_count_119 rfl ?_
    refine r_getP dX11_count_120 g_X11_7 (S.1 _ _ rfl) rfl (S.2 _ _ _ rfl) ?_
    refine r_iconst dX11_count_123 (v := nI 0) kc_0 ?_
    refine r_iaload _ dX11_count_124 (S.1 _ _ rfl) rfl (by first | decide | omega) (by decide) ?_
    rw [e1]
    first | refine r_iaddN dX11_count_125 ?_ | refine r_iadd dX11_count_125 ?_
    refine r_callS3 (fr' := 0) (lo' := 0) (mc' := 0) (ms' := 0) dX11_count_126 mm_X11_in ms_X11_in l_X11_142 (by decide) ⟨by decide, by decide⟩ (Nat.zero_le _) (Nat.zero_le _) (Nat.le_of_ble_eq_true rfl) (c_X11_in _ _ _) (am_ki ?_)
    rintro v126 _ _ _ ⟨hb126, rfl, rfl, rfl⟩
    refine r_if_eq 144 dX11_count_129 (by decide) (fun h129 => ?_) (fun h129 => ?_)
    · replace h129 := hb126.f h129
      have hc : ¬ ∃ j, j < np (rs I) ∧ x = nI (10 + j) := by
        rintro ⟨j, hj, rfl⟩
        exact h129 ((in_ab (by decide) (by omega)).mpr ⟨10 + j, by omega, by omega, rfl⟩)
      refine r_iconst dX11_count_144 (v := (-1)) kc_m1 ?_
      refine r_ireturn dX11_count_145 .int rfl rfl ?_
      refine ⟨_, rfl, ?_, rfl, hi_rf _, rfl, rfl⟩
      first | rw [cif_f hc] | (rw [cif_t hc, nj2]; rfl)
    · replace h129 := hb126.t h129
      obtain ⟨j, hj1, hj2, rfl⟩ := (in_ab (by decide) (by omega)).mp h129
      have hc : ∃ w, w < np (rs I) ∧ nI j = nI (10 + w) := ⟨j - 10, by omega, by congr 1; omega⟩
      have nj2 : nv (nI j) = j := nv_nI (by omega)
      refine r_aload_n dX11_count_132 rfl ?_
      refine r_getP dX11_count_133 g_X11_13 (S.1 _ _ rfl) rfl (S.2 _ _ _ rfl) ?_
      refine r_iload_n dX11_count_136 rfl ?_
      refine r_bipush dX11_count_137 (v := nI 10) (by decide) ?_
      first | refine r_isubN dX11_count_139 (by omega) ?_ | refine r_isub dX11_count_139 ?_
      refine r_iaload _ dX11_count_140 (S.1 _ _ rfl) rfl (by first | decide | omega) (by decide) ?_
      refine r_goto 145 dX11_count_141 (by decide) ?_
      refine r_ireturn dX11_count_145 .int rfl rfl ?_
      refine ⟨_, rfl, ?_, rfl, hi_rf _, rfl, rfl⟩
      first | rw [cif_f hc] | (rw [cif_t hc, nj2]; rfl)
theorem c_X11_count (S : St_m sh P) (V : Inv (rs I))  (x : Int32): am_R mX11_count (mpo sh P I (cn_res (rs I) x) (rs I)) 1 22 0 0 0 [some (.ref 0), some (.int x)] [] sh I P := by
  refine r_aload_n dX11_count_0 rfl ?_
  refine r_iconst dX11_count_1 (v := nI 0) kc_0 ?_
  refine r_putI dX11_count_2 f_X11_134 (S.1 _ _ rfl) rfl rfl rfl ?_
  have e : rs (va_up I 0 (upd (I 0) 0 (nI 0))) = rs I := rs_no rfl
  have h := b_X11_count (I := va_up I 0 (upd (I 0) 0 (nI 0))) S (by rw [e]; exact V) x
  rw [e] at h
  exact mpo_z h
theorem l_X11_take (S : St_m sh P) {n : Nat} (hn : n ≤ 2) {σ' : AIn} {J : AIn} (post : ∀ H, H = va_up (va_up I 6 (upd (I 6) 0 (nI n))) 7 (fun j => if j < 5 * n then I 25 j else I 7 j) → rs H = σ' ∧ hi H J) : ∀ (m k : Nat), k + m = 5 * n → ∀ H, H = va_up (va_up I 6 (upd (I 6) 0 (nI n))) 7 (fun j => if j < k then I 25 j else I 7 j) → am_R mX11_take (mpo sh P J (nI n) σ') 0 0 0 0 31 [some (.ref 0), some (.int (nI k))] [] sh H P := by
  intro m
  induction m with
  | zero =>
    intro k hk H hH
    have h60 : H 6 0 = nI n := by rw [hH]; rfl
    refine r_iload_n dX11_take_31 rfl ?_
    refine r_iconst dX11_take_32 (v := nI 5) kc_5 ?_
    refine r_aload_n dX11_take_33 rfl ?_
    refine r_getP dX11_take_34 g_X11_25 (S.1 _ _ rfl) rfl (S.2 _ _ _ rfl) ?_
    refine r_iconst dX11_take_37 (v := nI 0) kc_0 ?_
    refine r_iaload _ dX11_take_38 (S.1 _ _ rfl) rfl (by first | decide | omega) (by decide) ?_
    rw [h60]
    first | refine r_imulN dX11_take_39 ?_ | refine r_imul dX11_take_39 ?_
    refine r_icmp_geN 61 dX11_take_40 (by decide) (by omega) (by omega) (fun h40 => ?_) (fun h40 => ?_)
    · refine r_aload_n dX11_take_61 rfl ?_
      refine r_getP dX11_take_62 g_X11_25 (S.1 _ _ rfl) rfl (S.2 _ _ _ rfl) ?_
      refine r_iconst dX11_take_65 (v := nI 0) kc_0 ?_
      refine r_iaload _ dX11_take_66 (S.1 _ _ rfl) rfl (by first | decide | omega) (by decide) ?_
      rw [h60]
      refine r_ireturn dX11_take_67 .int rfl rfl ?_
      have e : k = 5 * n := by omega
      subst e
      obtain ⟨q1, q2⟩ := post H hH
      exact ⟨_, rfl, rfl, q1, q2, rfl, rfl⟩
    · exact absurd h40 (by omega)
  | succ m ih =>
    intro k hk H hH
    have h60 : H 6 0 = nI n := by rw [hH]; rfl
    refine r_iload_n dX11_take_31 rfl ?_
    refine r_iconst dX11_take_32 (v := nI 5) kc_5 ?_
    refine r_aload_n dX11_take_33 rfl ?_
    refine r_getP dX11_take_34 g_X11_25 (S.1 _ _ rfl) rfl (S.2 _ _ _ rfl) ?_
    refine r_iconst dX11_take_37 (v := nI 0) kc_0 ?_
    refine r_iaload _ dX11_take_38 (S.1 _ _ rfl) rfl (by first | decide | omega) (by decide) ?_
    rw [h60]
    first | refine r_imulN dX11_take_39 ?_ | refine r_imul dX11_take_39 ?_
    refine r_icmp_geN 61 dX11_take_40 (by decide) (by omega) (by omega) (fun h40 => ?_) (fun h40 => ?_)
    · exact absurd h40 (by omega)
    · refine r_aload_n dX11_take_43 rfl ?_
      refine r_getP dX11_take_44 g_X11_28 (S.1 _ _ rfl) rfl (S.2 _ _ _ rfl) ?_
      refine r_iload_n dX11_take_47 rfl ?_
      refine r_aload_n dX11_take_48 rfl ?_
      refine r_getP dX11_take_49 g_X11_82 (S.1 _ _ rfl) rfl (S.2 _ _ _ rfl) ?_
      refine r_iload_n dX11_take_52 rfl ?_
      refine r_iaload _ dX11_take_53 (S.1 _ _ rfl) rfl (by first | decide | omega) (by decide) ?_
      refine r_iastore _ dX11_take_54 (S.1 _ _ rfl) rfl (by first | decide | omega) (by decide) ?_
      first | refine r_iincN dX11_take_55 rfl kc_1 ?_ | refine r_iinc dX11_take_55 rfl rfl ?_
      dsimp only [List.set]
      refine r_goto 31 dX11_take_58 (by decide) ?_
      refine ih (k + 1) (by omega) _ ?_
      have e7 : H 7 = fun j => if j < k then I 25 j else I 7 j := by rw [hH]; rfl
      have e25 : H 25 k = I 25 k := by rw [hH]; rfl
      rw [e7, e25, fl0_step, hH, bx_uu]
theorem b_X11_take (S : St_m sh P) (V : Inv (rs I))  : am_R mX11_take (mpo sh P I (tk_res (rs I)) (tk_op (rs I))) 0 0 0 0 5 [some (.ref 0), none] [] sh I P := by
  refine r_aload_n dX11_take_5 rfl ?_
  refine r_getP dX11_take_6 g_X11_79 (S.1 _ _ rfl) rfl (S.2 _ _ _ rfl) ?_
  refine r_iconst dX11_take_9 (v := nI 0) kc_0 ?_
  refine r_iaload _ dX11_take_10 (S.1 _ _ rfl) rfl (by first | decide | omega) (by decide) ?_
  refine r_iconst dX11_take_11 (v := (-1)) kc_m1 ?_
  refine r_icmp_ne 17 dX11_take_12 (by decide) (fun h12 => ?_) (fun h12 => ?_)
  · have r12 : ¬ rs I 24 0 = -1 := h12
    have e24 : isN (I 24 0) 2 := by
      rcases V.2.2.2.2.1 with h | h
      · exact absurd h h12
      · exact h.1
    refine r_aload_n dX11_take_17 rfl ?_
    refine r_getP dX11_take_18 g_X11_25 (S.1 _ _ rfl) rfl (S.2 _ _ _ rfl) ?_
    refine r_iconst dX11_take_21 (v := nI 0) kc_0 ?_
    refine r_aload_n dX11_take_22 rfl ?_
    refine r_getP dX11_take_23 g_X11_79 (S.1 _ _ rfl) rfl (S.2 _ _ _ rfl) ?_
    refine r_iconst dX11_take_26 (v := nI 0) kc_0 ?_
    refine r_iaload _ dX11_take_27 (S.1 _ _ rfl) rfl (by first | decide | omega) (by decide) ?_
    rw [e24.1]
    refine r_iastore _ dX11_take_28 (S.1 _ _ rfl) rfl (by first | decide | omega) (by decide) ?_
    refine r_iconst dX11_take_29 (v := nI 0) kc_0 ?_
    refine r_istore_n dX11_take_30 (Nat.le_of_ble_eq_true rfl) ?_
    dsimp only [List.set]
    have hn := e24.2
    have h9 := l_X11_take (J := I) (σ' := tk_op (rs I)) S hn (I := I) (sh := sh) (P := P) (fun H hH => ⟨by rw [hH, rs_up rfl, rs_up rfl, tk_op, if_neg r12]; rw [← e24.1]; rfl, by rw [hH]; exact hi_up (hi_up (hi_rf _) (by decide)) (by decide)⟩) (5 * nv (I 24 0)) 0 (Nat.zero_add _) (va_up I 6 (upd (I 6) 0 (nI (nv (I 24 0))))) (by
      funext r
      by_cases hr : r = 7
      · subst hr; funext j; simp [va_up]
      · simp [va_up, hr])
    have e : tk_res (rs I) = nI (nv (I 24 0)) := e24.1
    rw [e]
    exact h9
  · have r12 : rs I 24 0 = -1 := h12
    refine r_iconst dX11_take_15 (v := (-1)) kc_m1 ?_
    refine r_ireturn dX11_take_16 .int rfl rfl ?_
    refine ⟨_, rfl, ?_, ?_, hi_rf _, rfl, rfl⟩
    · rw [tk_res, r12]
    · rw [tk_op, if_pos r12]
theorem c_X11_take (S : St_m sh P) (V : Inv (rs I))  : am_R mX11_take (mpo sh P I (tk_res (rs I)) (tk_op (rs I))) 0 0 0 0 0 [some (.ref 0), none] [] sh I P := by
  refine r_aload_n dX11_take_0 rfl ?_
  refine r_iconst dX11_take_1 (v := nI 0) kc_0 ?_
  refine r_putI dX11_take_2 f_X11_134 (S.1 _ _ rfl) rfl rfl rfl ?_
  have e : rs (va_up I 0 (upd (I 0) 0 (nI 0))) = rs I := rs_no rfl
  have h := b_X11_take (I := va_up I 0 (upd (I 0) 0 (nI 0))) S (by rw [e]; exact V)
  rw [e] at h
  exact mpo_z h
def fdH (I : AIn) (x : Int32) (T k : Nat) : AIn := va_up (va_up I 27 (fun j => if T ≤ j ∧ j < T + k then fe_b x (j - T) else I 27 j)) 26 (upd (I 26) 0 (nI (T + k)))
theorem l_X11_feed (S : St_m sh P) {T n : Nat} {x : Int32} (hT : T + n ≤ 160) (hn : n ≤ 4) {σ' : AIn} {J : AIn} (post : rs (fdH I x T n) = σ' ∧ hi (fdH I x T n) J) : ∀ (m k : Nat), k + m = n → ∀ H, H = fdH I x T k → am_R mX11_feed (mpo sh P J (nI (T + n)) σ') 1 22 0 0 32 [some (.ref 0), some (.int x), some (.int (nI n)), some (.int (nI k))] [] sh H P := by
  intro m
  induction m with
  | zero =>
    intro k hk H hH
    have h26 : H 26 0 = nI (T + k) := by rw [hH]; rfl
    refine r_iload_n dX11_feed_32 rfl ?_
    refine r_iload_n dX11_feed_33 rfl ?_
    refine r_icmp_geN 77 dX11_feed_34 (by decide) (by omega) (by omega) (fun h34 => ?_) (fun h34 => ?_)
    · refine r_aload_n dX11_feed_77 rfl ?_
      refine r_getP dX11_feed_78 g_X11_85 (S.1 _ _ rfl) rfl (S.2 _ _ _ rfl) ?_
      refine r_iconst dX11_feed_81 (v := nI 0) kc_0 ?_
      refine r_iaload _ dX11_feed_82 (S.1 _ _ rfl) rfl (by first | decide | omega) (by decide) ?_
      rw [h26]
      refine r_ireturn dX11_feed_83 .int rfl rfl ?_
      have e : k = n := by omega
      subst e
      exact ⟨_, rfl, rfl, by rw [hH]; exact post.1, by rw [hH]; exact post.2, rfl, rfl⟩
    · exact absurd h34 (by omega)
  | succ m ih =>
    intro k hk H hH
    have h26 : H 26 0 = nI (T + k) := by rw [hH]; rfl
    have e27 : H 27 = fun j => if T ≤ j ∧ j < T + k then fe_b x (j - T) else I 27 j := by rw [hH]; rfl
    have e26 : H 26 = upd (I 26) 0 (nI (T + k)) := by rw [hH]; rfl
    refine r_iload_n dX11_feed_32 rfl ?_
    refine r_iload_n dX11_feed_33 rfl ?_
    refine r_icmp_geN 77 dX11_feed_34 (by decide) (by omega) (by omega) (fun h34 => ?_) (fun h34 => ?_)
    · exact absurd h34 (by omega)
    · refine r_aload_n dX11_feed_37 rfl ?_
      refine r_getP dX11_feed_38 g_X11_88 (S.1 _ _ rfl) rfl (S.2 _ _ _ rfl) ?_
      refine r_aload_n dX11_feed_41 rfl ?_
      refine r_getP dX11_feed_42 g_X11_85 (S.1 _ _ rfl) rfl (S.2 _ _ _ rfl) ?_
      refine r_iconst dX11_feed_45 (v := nI 0) kc_0 ?_
      refine r_iaload _ dX11_feed_46 (S.1 _ _ rfl) rfl (by first | decide | omega) (by decide) ?_
      rw [h26]
      refine r_iload_n dX11_feed_47 rfl ?_
      refine r_bipush dX11_feed_48 (v := nI 24) (by decide) ?_
      refine r_bipush dX11_feed_50 (v := nI 8) (by decide) ?_
      refine r_iload_n dX11_feed_52 rfl ?_
      first | refine r_imulN dX11_feed_53 ?_ | refine r_imul dX11_feed_53 ?_
      refine r_isub dX11_feed_54 ?_
      refine r_ishr dX11_feed_55 ?_
      refine r_sipush dX11_feed_56 (v := nI 255) (by decide) ?_
      refine r_iand dX11_feed_59 ?_
      refine r_iastore _ dX11_feed_60 (S.1 _ _ rfl) rfl (by first | decide | omega) (by decide) ?_
      refine r_aload_n dX11_feed_61 rfl ?_
      refine r_getP dX11_feed_62 g_X11_85 (S.1 _ _ rfl) rfl (S.2 _ _ _ rfl) ?_
      refine r_iconst dX11_feed_65 (v := nI 0) kc_0 ?_
      refine r_dup2 dX11_feed_66 ?_
      refine r_iaload _ dX11_feed_67 (S.1 _ _ rfl) rfl (by first | decide | omega) (by decide) ?_
      simp (decide := true) only [va_up_ne, va_up_self]
      rw [h26]
      refine r_iconst dX11_feed_68 (v := nI 1) kc_1 ?_
      first | refine r_iaddN dX11_feed_69 ?_ | refine r_iadd dX11_feed_69 ?_
      refine r_iastore _ dX11_feed_70 (S.1 _ _ rfl) rfl (by first | decide | omega) (by decide) ?_
      first | refine r_iincN dX11_feed_71 rfl kc_1 ?_ | refine r_iinc dX11_feed_71 rfl rfl ?_
      dsimp only [List.set]
      refine r_goto 32 dX11_feed_74 (by decide) ?_
      refine ih (k + 1) (by omega) _ ?_
      have q1 : va_up H 27 (upd (H 27) (T + k) ((x >>> ((nI 24 - nI (8 * k)) &&& 31)) &&& nI 255)) = va_up H 27 (fun j => if T ≤ j ∧ j < T + (k + 1) then fe_b x (j - T) else I 27 j) := by
        rw [e27, ← fl_step, fe_b, pk_mul]
      rw [q1]
      have q2 : va_up H 27 (fun j => if T ≤ j ∧ j < T + (k + 1) then fe_b x (j - T) else I 27 j) 26 = upd (I 26) 0 (nI (T + k)) := by rw [va_up_ne _ _ (by decide), e26]
      rw [q2, fdH, hH, fdH, up_sw (i := 26) (j := 27) (by decide), bx_uu, bx_uu, fa_twice]
      rfl
theorem b_X11_feed (S : St_m sh P) (V : Inv (rs I))  (x y : Int32): am_R mX11_feed (mpo sh P I (fe_res (rs I) x y) (fe_op (rs I) x y)) 1 22 0 0 5 [some (.ref 0), some (.int x), some (.int y), none] [] sh I P := by
  have eT : isN (I 26 0) 160 := V.2.2.2.2.2.1
  have bT := eT.2
  refine r_iload_n dX11_feed_5 rfl ?_
  refine r_iconst dX11_feed_6 (v := nI 1) kc_1 ?_
  refine r_iconst dX11_feed_7 (v := nI 4) kc_4 ?_
  refine r_callS3 (fr' := 0) (lo' := 0) (mc' := 0) (ms' := 0) dX11_feed_8 mm_X11_in ms_X11_in l_X11_142 (by decide) ⟨by decide, by decide⟩ (Nat.zero_le _) (Nat.zero_le _) (Nat.le_of_ble_eq_true rfl) (c_X11_in _ _ _) (am_ki ?_)
  rintro v8 _ _ _ ⟨hb8, rfl, rfl, rfl⟩
  refine r_if_eq 28 dX11_feed_11 (by decide) (fun h11 => ?_) (fun h11 => ?_)
  · replace h11 := hb8.f h11
    have hc : ¬ fe_c (rs I) y := fun h => h11 ((in_ab (by decide) (by decide)).mpr (by obtain ⟨w, hw, e⟩ := h.1.2; exact ⟨w, by have := h.1.1; rw [e, nv_nI (by omega)] at this; exact this, by omega, e⟩))
    refine r_iconst dX11_feed_28 (v := (-1)) kc_m1 ?_
    refine r_ireturn dX11_feed_29 .int rfl rfl ?_
    refine ⟨_, rfl, ?_, ?_, hi_rf _, rfl, rfl⟩
    · rw [fe_res, cif_f hc]
    · rw [fe_op, cif_f hc]
  · replace h11 := hb8.t h11
    obtain ⟨n, hn1, hn2, rfl⟩ := (in_ab (by decide) (by decide)).mp h11
    have nn : nv (nI n) = n := nv_nI (by omega)
    refine r_aload_n dX11_feed_14 rfl ?_
    refine r_getP dX11_feed_15 g_X11_85 (S.1 _ _ rfl) rfl (S.2 _ _ _ rfl) ?_
    refine r_iconst dX11_feed_18 (v := nI 0) kc_0 ?_
    refine r_iaload _ dX11_feed_19 (S.1 _ _ rfl) rfl (by first | decide | omega) (by decide) ?_
    rw [eT.1]
    refine r_iload_n dX11_feed_20 rfl ?_
    first | refine r_iaddN dX11_feed_21 ?_ | refine r_iadd dX11_feed_21 ?_
    refine r_sipush dX11_feed_22 (v := nI 160) (by decide) ?_
    refine r_icmp_leN 30 dX11_feed_25 (by decide) (by omega) (by omega) (fun h25 => ?_) (fun h25 => ?_)
    · have hc : fe_c (rs I) (nI n) := ⟨⟨by rw [nn]; exact hn1, inR_nI (by omega)⟩, by show nv (I 26 0) + nv (nI n) ≤ 160; rw [nn]; exact h25⟩
      refine r_iconst dX11_feed_30 (v := nI 0) kc_0 ?_
      refine r_istore_n dX11_feed_31 (Nat.le_of_ble_eq_true rfl) ?_
      dsimp only [List.set]
      have er : fe_res (rs I) x (nI n) = nI (nv (I 26 0) + n) := by rw [fe_res, cif_t hc, nn]; rfl
      have eo : fe_op (rs I) x (nI n) = rs (fdH I x (nv (I 26 0)) n) := by rw [fe_op, cif_t hc, nn, fdH, rs_up rfl, rs_up rfl]; rfl
      rw [er, eo]
      refine l_X11_feed S h25 hn2 ⟨rfl, hi_up (hi_up (hi_rf _) (by decide)) (by decide)⟩ n 0 (Nat.zero_add _) I ?_
      rw [fdH, Nat.add_zero, ← eT.1]
      funext r
      by_cases h1 : r = 26
      · subst h1; funext j; by_cases h2 : j = 0
        · subst h2; rfl
        · simp [va_up, upd, h2]
      · by_cases h2 : r = 27
        · subst h2; funext j; have h3 : ¬ (nv (I 26 0) ≤ j ∧ j < nv (I 26 0)) := by omega
          simp [va_up, h3]
        · simp [va_up, h1, h2]
    · have hc : ¬ fe_c (rs I) (nI n) := fun h => by have h9 : nv (I 26 0) + nv (nI n) ≤ 160 := h.2; rw [nn] at h9; omega
      refine r_iconst dX11_feed_28 (v := (-1)) kc_m1 ?_
      refine r_ireturn dX11_feed_29 .int rfl rfl ?_
      refine ⟨_, rfl, ?_, ?_, hi_rf _, rfl, rfl⟩
      · rw [fe_res, cif_f hc]
      · rw [fe_op, cif_f hc]
theorem c_X11_feed (S : St_m sh P) (V : Inv (rs I))  (x y : Int32): am_R mX11_feed (mpo sh P I (fe_res (rs I) x y) (fe_op (rs I) x y)) 1 22 0 0 0 [some (.ref 0), some (.int x), some (.int y), none] [] sh I P := by
  refine r_aload_n dX11_feed_0 rfl ?_
  refine r_iconst dX11_feed_1 (v := nI 0) kc_0 ?_
  refine r_putI dX11_feed_2 f_X11_134 (S.1 _ _ rfl) rfl rfl rfl ?_
  have e : rs (va_up I 0 (upd (I 0) 0 (nI 0))) = rs I := rs_no rfl
  have h := b_X11_feed (I := va_up I 0 (upd (I 0) 0 (nI 0))) S (by rw [e]; exact V) x y
  rw [e] at h
  exact mpo_z h
end M4
end
