section
-- ===== PART A: goes FIRST, ahead of the names: the tables' words, and 'selects' of the private methods out of them =====
/-- a private method of a class that the tables say can be made, by its rows of tables_1 -/
def lw_okq (q : MethodName × Nat) : Prop := (q.1.cls ≠ "java/lang/invoke/MethodHandle" ∧ q.1.cls ≠ "java/lang/invoke/VarHandle") ∧ Cond.instantiable q.1.cls q.2 ∈ tables_1 ∧ Cond.privateMethod q.1 ∈ tables_1 ∧ Cond.instanceMethod q.1 ∈ tables_1
theorem lw_p0 : lw_okq (⟨"OrdersMadeOne$Ways", "begin", "(LOrdersMadeOne$Program;LOrdersMadeOne$Rows;I)V"⟩, 3) := ⟨⟨by decide +kernel, by decide +kernel⟩, List.mem_of_getElem? (i := 226) (by decide +kernel), List.mem_of_getElem? (i := 424) (by decide +kernel), List.mem_of_getElem? (i := 425) (by decide +kernel)⟩
theorem lw_p1 : lw_okq (⟨"OrdersMadeOne$Packed", "beginCode", "(III)V"⟩, 9) := ⟨⟨by decide +kernel, by decide +kernel⟩, List.mem_of_getElem? (i := 50) (by decide +kernel), List.mem_of_getElem? (i := 451) (by decide +kernel), List.mem_of_getElem? (i := 452) (by decide +kernel)⟩
theorem lw_p2 : lw_okq (⟨"OrdersMadeOne$Packed", "write", "(I)V"⟩, 9) := ⟨⟨by decide +kernel, by decide +kernel⟩, List.mem_of_getElem? (i := 50) (by decide +kernel), List.mem_of_getElem? (i := 455) (by decide +kernel), List.mem_of_getElem? (i := 456) (by decide +kernel)⟩
theorem lw_p3 : lw_okq (⟨"OrdersMadeOne$Run", "clear", "()V"⟩, 9) := ⟨⟨by decide +kernel, by decide +kernel⟩, List.mem_of_getElem? (i := 128) (by decide +kernel), List.mem_of_getElem? (i := 484) (by decide +kernel), List.mem_of_getElem? (i := 485) (by decide +kernel)⟩
theorem lw_p4 : lw_okq (⟨"OrdersMadeOne$Run", "endAhead", "(LOrdersMadeOne$Program;I)I"⟩, 9) := ⟨⟨by decide +kernel, by decide +kernel⟩, List.mem_of_getElem? (i := 128) (by decide +kernel), List.mem_of_getElem? (i := 490) (by decide +kernel), List.mem_of_getElem? (i := 491) (by decide +kernel)⟩
theorem lw_p5 : lw_okq (⟨"OrdersMadeOne$Run", "tryOrder", "(LOrdersMadeOne$Program;)I"⟩, 9) := ⟨⟨by decide +kernel, by decide +kernel⟩, List.mem_of_getElem? (i := 128) (by decide +kernel), List.mem_of_getElem? (i := 499) (by decide +kernel), List.mem_of_getElem? (i := 500) (by decide +kernel)⟩
theorem lw_p6 : lw_okq (⟨"OrdersMadeOne$Run", "carryOut", "(II)V"⟩, 9) := ⟨⟨by decide +kernel, by decide +kernel⟩, List.mem_of_getElem? (i := 128) (by decide +kernel), List.mem_of_getElem? (i := 507) (by decide +kernel), List.mem_of_getElem? (i := 508) (by decide +kernel)⟩
theorem lw_p7 : lw_okq (⟨"OrdersMadeOne$Run", "lay", "(I)V"⟩, 9) := ⟨⟨by decide +kernel, by decide +kernel⟩, List.mem_of_getElem? (i := 128) (by decide +kernel), List.mem_of_getElem? (i := 511) (by decide +kernel), List.mem_of_getElem? (i := 512) (by decide +kernel)⟩
theorem lw_p8 : lw_okq (⟨"OrdersMadeOne$Run", "layOneForTwo", "(I)V"⟩, 9) := ⟨⟨by decide +kernel, by decide +kernel⟩, List.mem_of_getElem? (i := 128) (by decide +kernel), List.mem_of_getElem? (i := 515) (by decide +kernel), List.mem_of_getElem? (i := 516) (by decide +kernel)⟩
theorem lw_p9 : lw_okq (⟨"OrdersMadeOne$Run", "lift", "()I"⟩, 9) := ⟨⟨by decide +kernel, by decide +kernel⟩, List.mem_of_getElem? (i := 128) (by decide +kernel), List.mem_of_getElem? (i := 519) (by decide +kernel), List.mem_of_getElem? (i := 520) (by decide +kernel)⟩
theorem lw_p10 : lw_okq (⟨"OrdersMadeOne$Run", "turnUpperTwo", "()V"⟩, 9) := ⟨⟨by decide +kernel, by decide +kernel⟩, List.mem_of_getElem? (i := 128) (by decide +kernel), List.mem_of_getElem? (i := 523) (by decide +kernel), List.mem_of_getElem? (i := 524) (by decide +kernel)⟩
theorem lw_p11 : lw_okq (⟨"OrdersMadeOne$Chooser", "gather", "(LOrdersMadeOne$State;Z)I"⟩, 15) := ⟨⟨by decide +kernel, by decide +kernel⟩, List.mem_of_getElem? (i := 244) (by decide +kernel), List.mem_of_getElem? (i := 550) (by decide +kernel), List.mem_of_getElem? (i := 551) (by decide +kernel)⟩
theorem lw_p12 : lw_okq (⟨"OrdersMadeOne$Chooser", "gatherAt", "(LOrdersMadeOne$Program;IIZ)V"⟩, 15) := ⟨⟨by decide +kernel, by decide +kernel⟩, List.mem_of_getElem? (i := 244) (by decide +kernel), List.mem_of_getElem? (i := 555) (by decide +kernel), List.mem_of_getElem? (i := 556) (by decide +kernel)⟩
theorem lw_p13 : lw_okq (⟨"OrdersMadeOne$Chooser", "addStand", "(IIII)V"⟩, 15) := ⟨⟨by decide +kernel, by decide +kernel⟩, List.mem_of_getElem? (i := 244) (by decide +kernel), List.mem_of_getElem? (i := 561) (by decide +kernel), List.mem_of_getElem? (i := 562) (by decide +kernel)⟩
theorem lw_p14 : lw_okq (⟨"OrdersMadeOne$Chooser", "findRow", "(I)I"⟩, 15) := ⟨⟨by decide +kernel, by decide +kernel⟩, List.mem_of_getElem? (i := 244) (by decide +kernel), List.mem_of_getElem? (i := 565) (by decide +kernel), List.mem_of_getElem? (i := 566) (by decide +kernel)⟩
theorem lw_p15 : lw_okq (⟨"OrdersMadeOne$Chooser", "chooseOne", "()V"⟩, 15) := ⟨⟨by decide +kernel, by decide +kernel⟩, List.mem_of_getElem? (i := 244) (by decide +kernel), List.mem_of_getElem? (i := 570) (by decide +kernel), List.mem_of_getElem? (i := 571) (by decide +kernel)⟩
def lw_privs_1 : List (MethodName × Nat) := [(⟨"OrdersMadeOne$Ways", "begin", "(LOrdersMadeOne$Program;LOrdersMadeOne$Rows;I)V"⟩, 3), (⟨"OrdersMadeOne$Packed", "beginCode", "(III)V"⟩, 9), (⟨"OrdersMadeOne$Packed", "write", "(I)V"⟩, 9), (⟨"OrdersMadeOne$Run", "clear", "()V"⟩, 9), (⟨"OrdersMadeOne$Run", "endAhead", "(LOrdersMadeOne$Program;I)I"⟩, 9), (⟨"OrdersMadeOne$Run", "tryOrder", "(LOrdersMadeOne$Program;)I"⟩, 9), (⟨"OrdersMadeOne$Run", "carryOut", "(II)V"⟩, 9), (⟨"OrdersMadeOne$Run", "lay", "(I)V"⟩, 9), (⟨"OrdersMadeOne$Run", "layOneForTwo", "(I)V"⟩, 9), (⟨"OrdersMadeOne$Run", "lift", "()I"⟩, 9), (⟨"OrdersMadeOne$Run", "turnUpperTwo", "()V"⟩, 9), (⟨"OrdersMadeOne$Chooser", "gather", "(LOrdersMadeOne$State;Z)I"⟩, 15), (⟨"OrdersMadeOne$Chooser", "gatherAt", "(LOrdersMadeOne$Program;IIZ)V"⟩, 15), (⟨"OrdersMadeOne$Chooser", "addStand", "(IIII)V"⟩, 15), (⟨"OrdersMadeOne$Chooser", "findRow", "(I)I"⟩, 15), (⟨"OrdersMadeOne$Chooser", "chooseOne", "()V"⟩, 15)]
theorem lw_r1 : ∀ q ∈ lw_privs_1, lw_okq q := List.forall_mem_cons.mpr ⟨lw_p0, List.forall_mem_cons.mpr ⟨lw_p1, List.forall_mem_cons.mpr ⟨lw_p2, List.forall_mem_cons.mpr ⟨lw_p3, List.forall_mem_cons.mpr ⟨lw_p4, List.forall_mem_cons.mpr ⟨lw_p5, List.forall_mem_cons.mpr ⟨lw_p6, List.forall_mem_cons.mpr ⟨lw_p7, List.forall_mem_cons.mpr ⟨lw_p8, List.forall_mem_cons.mpr ⟨lw_p9, List.forall_mem_cons.mpr ⟨lw_p10, List.forall_mem_cons.mpr ⟨lw_p11, List.forall_mem_cons.mpr ⟨lw_p12, List.forall_mem_cons.mpr ⟨lw_p13, List.forall_mem_cons.mpr ⟨lw_p14, List.forall_mem_cons.mpr ⟨lw_p15, fun _ h => absurd h List.not_mem_nil⟩⟩⟩⟩⟩⟩⟩⟩⟩⟩⟩⟩⟩⟩⟩⟩
theorem lw_p16 : lw_okq (⟨"OrdersMadeOne$Chooser", "mostSaved", "(II)I"⟩, 15) := ⟨⟨by decide +kernel, by decide +kernel⟩, List.mem_of_getElem? (i := 244) (by decide +kernel), List.mem_of_getElem? (i := 574) (by decide +kernel), List.mem_of_getElem? (i := 575) (by decide +kernel)⟩
theorem lw_p17 : lw_okq (⟨"OrdersMadeOne$Chooser", "savedFrom", "(II)I"⟩, 15) := ⟨⟨by decide +kernel, by decide +kernel⟩, List.mem_of_getElem? (i := 244) (by decide +kernel), List.mem_of_getElem? (i := 578) (by decide +kernel), List.mem_of_getElem? (i := 579) (by decide +kernel)⟩
theorem lw_p18 : lw_okq (⟨"OrdersMadeOne$Chooser", "chooseTwo", "()V"⟩, 15) := ⟨⟨by decide +kernel, by decide +kernel⟩, List.mem_of_getElem? (i := 244) (by decide +kernel), List.mem_of_getElem? (i := 585) (by decide +kernel), List.mem_of_getElem? (i := 586) (by decide +kernel)⟩
theorem lw_p19 : lw_okq (⟨"OrdersMadeOne$Chooser", "tryTwo", "(II)V"⟩, 15) := ⟨⟨by decide +kernel, by decide +kernel⟩, List.mem_of_getElem? (i := 244) (by decide +kernel), List.mem_of_getElem? (i := 589) (by decide +kernel), List.mem_of_getElem? (i := 590) (by decide +kernel)⟩
theorem lw_p20 : lw_okq (⟨"OrdersMadeOne$Told", "readCode", "(LOrdersMadeOne$Program;LOrdersMadeOne$Rows;I)Z"⟩, 3) := ⟨⟨by decide +kernel, by decide +kernel⟩, List.mem_of_getElem? (i := 171) (by decide +kernel), List.mem_of_getElem? (i := 624) (by decide +kernel), List.mem_of_getElem? (i := 625) (by decide +kernel)⟩
theorem lw_p21 : lw_okq (⟨"OrdersMadeOne$Told", "readOrder", "(LOrdersMadeOne$Program;I)Z"⟩, 3) := ⟨⟨by decide +kernel, by decide +kernel⟩, List.mem_of_getElem? (i := 171) (by decide +kernel), List.mem_of_getElem? (i := 629) (by decide +kernel), List.mem_of_getElem? (i := 630) (by decide +kernel)⟩
theorem lw_p22 : lw_okq (⟨"OrdersMadeOneModel", "forget", "(I)V"⟩, 48) := ⟨⟨by decide +kernel, by decide +kernel⟩, List.mem_of_getElem? (i := 669) (by decide +kernel), List.mem_of_getElem? (i := 825) (by decide +kernel), List.mem_of_getElem? (i := 826) (by decide +kernel)⟩
theorem lw_p23 : lw_okq (⟨"OrdersMadeOneModel", "isProgram", "(I)Z"⟩, 48) := ⟨⟨by decide +kernel, by decide +kernel⟩, List.mem_of_getElem? (i := 669) (by decide +kernel), List.mem_of_getElem? (i := 833) (by decide +kernel), List.mem_of_getElem? (i := 834) (by decide +kernel)⟩
theorem lw_p24 : lw_okq (⟨"OrdersMadeOneModel", "isLed", "(II)Z"⟩, 48) := ⟨⟨by decide +kernel, by decide +kernel⟩, List.mem_of_getElem? (i := 669) (by decide +kernel), List.mem_of_getElem? (i := 854) (by decide +kernel), List.mem_of_getElem? (i := 855) (by decide +kernel)⟩
theorem lw_p25 : lw_okq (⟨"OrdersMadeOneModel", "takeJoins", "()V"⟩, 48) := ⟨⟨by decide +kernel, by decide +kernel⟩, List.mem_of_getElem? (i := 669) (by decide +kernel), List.mem_of_getElem? (i := 877) (by decide +kernel), List.mem_of_getElem? (i := 878) (by decide +kernel)⟩
theorem lw_p26 : lw_okq (⟨"OrdersMadeOneModel", "findLeast", "(II)V"⟩, 48) := ⟨⟨by decide +kernel, by decide +kernel⟩, List.mem_of_getElem? (i := 669) (by decide +kernel), List.mem_of_getElem? (i := 881) (by decide +kernel), List.mem_of_getElem? (i := 882) (by decide +kernel)⟩
theorem lw_p27 : lw_okq (⟨"OrdersMadeOneModel", "readLed", "(I)V"⟩, 48) := ⟨⟨by decide +kernel, by decide +kernel⟩, List.mem_of_getElem? (i := 669) (by decide +kernel), List.mem_of_getElem? (i := 885) (by decide +kernel), List.mem_of_getElem? (i := 886) (by decide +kernel)⟩
theorem lw_p28 : lw_okq (⟨"OrdersMadeOneModel", "stands", "(III)Z"⟩, 48) := ⟨⟨by decide +kernel, by decide +kernel⟩, List.mem_of_getElem? (i := 669) (by decide +kernel), List.mem_of_getElem? (i := 889) (by decide +kernel), List.mem_of_getElem? (i := 890) (by decide +kernel)⟩
theorem lw_p29 : lw_okq (⟨"OrdersMadeOneModel", "putByte", "(I)V"⟩, 48) := ⟨⟨by decide +kernel, by decide +kernel⟩, List.mem_of_getElem? (i := 669) (by decide +kernel), List.mem_of_getElem? (i := 893) (by decide +kernel), List.mem_of_getElem? (i := 894) (by decide +kernel)⟩
theorem lw_p30 : lw_okq (⟨"OrdersMadeOneModel", "runs", "(II)I"⟩, 48) := ⟨⟨by decide +kernel, by decide +kernel⟩, List.mem_of_getElem? (i := 669) (by decide +kernel), List.mem_of_getElem? (i := 909) (by decide +kernel), List.mem_of_getElem? (i := 910) (by decide +kernel)⟩
theorem lw_p31 : lw_okq (⟨"OrdersMadeOneModel", "does", "(I)I"⟩, 48) := ⟨⟨by decide +kernel, by decide +kernel⟩, List.mem_of_getElem? (i := 669) (by decide +kernel), List.mem_of_getElem? (i := 916) (by decide +kernel), List.mem_of_getElem? (i := 917) (by decide +kernel)⟩
def lw_privs_2 : List (MethodName × Nat) := [(⟨"OrdersMadeOne$Chooser", "mostSaved", "(II)I"⟩, 15), (⟨"OrdersMadeOne$Chooser", "savedFrom", "(II)I"⟩, 15), (⟨"OrdersMadeOne$Chooser", "chooseTwo", "()V"⟩, 15), (⟨"OrdersMadeOne$Chooser", "tryTwo", "(II)V"⟩, 15), (⟨"OrdersMadeOne$Told", "readCode", "(LOrdersMadeOne$Program;LOrdersMadeOne$Rows;I)Z"⟩, 3), (⟨"OrdersMadeOne$Told", "readOrder", "(LOrdersMadeOne$Program;I)Z"⟩, 3), (⟨"OrdersMadeOneModel", "forget", "(I)V"⟩, 48), (⟨"OrdersMadeOneModel", "isProgram", "(I)Z"⟩, 48), (⟨"OrdersMadeOneModel", "isLed", "(II)Z"⟩, 48), (⟨"OrdersMadeOneModel", "takeJoins", "()V"⟩, 48), (⟨"OrdersMadeOneModel", "findLeast", "(II)V"⟩, 48), (⟨"OrdersMadeOneModel", "readLed", "(I)V"⟩, 48), (⟨"OrdersMadeOneModel", "stands", "(III)Z"⟩, 48), (⟨"OrdersMadeOneModel", "putByte", "(I)V"⟩, 48), (⟨"OrdersMadeOneModel", "runs", "(II)I"⟩, 48), (⟨"OrdersMadeOneModel", "does", "(I)I"⟩, 48)]
theorem lw_r2 : ∀ q ∈ lw_privs_2, lw_okq q := List.forall_mem_cons.mpr ⟨lw_p16, List.forall_mem_cons.mpr ⟨lw_p17, List.forall_mem_cons.mpr ⟨lw_p18, List.forall_mem_cons.mpr ⟨lw_p19, List.forall_mem_cons.mpr ⟨lw_p20, List.forall_mem_cons.mpr ⟨lw_p21, List.forall_mem_cons.mpr ⟨lw_p22, List.forall_mem_cons.mpr ⟨lw_p23, List.forall_mem_cons.mpr ⟨lw_p24, List.forall_mem_cons.mpr ⟨lw_p25, List.forall_mem_cons.mpr ⟨lw_p26, List.forall_mem_cons.mpr ⟨lw_p27, List.forall_mem_cons.mpr ⟨lw_p28, List.forall_mem_cons.mpr ⟨lw_p29, List.forall_mem_cons.mpr ⟨lw_p30, List.forall_mem_cons.mpr ⟨lw_p31, fun _ h => absurd h List.not_mem_nil⟩⟩⟩⟩⟩⟩⟩⟩⟩⟩⟩⟩⟩⟩⟩⟩
theorem lw_p32 : lw_okq (⟨"OrdersMadeOneModel", "push", "(I)V"⟩, 48) := ⟨⟨by decide +kernel, by decide +kernel⟩, List.mem_of_getElem? (i := 669) (by decide +kernel), List.mem_of_getElem? (i := 920) (by decide +kernel), List.mem_of_getElem? (i := 921) (by decide +kernel)⟩
theorem lw_p33 : lw_okq (⟨"OrdersMadeOneModel", "pop", "()I"⟩, 48) := ⟨⟨by decide +kernel, by decide +kernel⟩, List.mem_of_getElem? (i := 669) (by decide +kernel), List.mem_of_getElem? (i := 924) (by decide +kernel), List.mem_of_getElem? (i := 925) (by decide +kernel)⟩
theorem lw_p34 : lw_okq (⟨"OrdersMadeOneModel", "costOf", "(I)I"⟩, 48) := ⟨⟨by decide +kernel, by decide +kernel⟩, List.mem_of_getElem? (i := 669) (by decide +kernel), List.mem_of_getElem? (i := 943) (by decide +kernel), List.mem_of_getElem? (i := 944) (by decide +kernel)⟩
theorem lw_p35 : lw_okq (⟨"OrdersMadeOneModel", "findRows", "()V"⟩, 48) := ⟨⟨by decide +kernel, by decide +kernel⟩, List.mem_of_getElem? (i := 669) (by decide +kernel), List.mem_of_getElem? (i := 951) (by decide +kernel), List.mem_of_getElem? (i := 952) (by decide +kernel)⟩
theorem lw_p36 : lw_okq (⟨"OrdersMadeOneModel", "putFound", "(I)V"⟩, 48) := ⟨⟨by decide +kernel, by decide +kernel⟩, List.mem_of_getElem? (i := 669) (by decide +kernel), List.mem_of_getElem? (i := 955) (by decide +kernel), List.mem_of_getElem? (i := 956) (by decide +kernel)⟩
theorem lw_p37 : lw_okq (⟨"OrdersMadeOneModel", "tryRow", "(II)V"⟩, 48) := ⟨⟨by decide +kernel, by decide +kernel⟩, List.mem_of_getElem? (i := 669) (by decide +kernel), List.mem_of_getElem? (i := 959) (by decide +kernel), List.mem_of_getElem? (i := 960) (by decide +kernel)⟩
theorem lw_p38 : lw_okq (⟨"OrdersMadeOneModel", "tryNow", "(II)V"⟩, 48) := ⟨⟨by decide +kernel, by decide +kernel⟩, List.mem_of_getElem? (i := 669) (by decide +kernel), List.mem_of_getElem? (i := 963) (by decide +kernel), List.mem_of_getElem? (i := 964) (by decide +kernel)⟩
theorem lw_p39 : lw_okq (⟨"OrdersMadeOneModel", "readAll", "()Z"⟩, 48) := ⟨⟨by decide +kernel, by decide +kernel⟩, List.mem_of_getElem? (i := 669) (by decide +kernel), List.mem_of_getElem? (i := 983) (by decide +kernel), List.mem_of_getElem? (i := 984) (by decide +kernel)⟩
theorem lw_p40 : lw_okq (⟨"OrdersMadeOneModel", "readOrder", "(I)Z"⟩, 48) := ⟨⟨by decide +kernel, by decide +kernel⟩, List.mem_of_getElem? (i := 669) (by decide +kernel), List.mem_of_getElem? (i := 987) (by decide +kernel), List.mem_of_getElem? (i := 988) (by decide +kernel)⟩
theorem lw_p41 : lw_okq (⟨"OrdersMadeOneModel", "copy", "(II)V"⟩, 48) := ⟨⟨by decide +kernel, by decide +kernel⟩, List.mem_of_getElem? (i := 669) (by decide +kernel), List.mem_of_getElem? (i := 999) (by decide +kernel), List.mem_of_getElem? (i := 1000) (by decide +kernel)⟩
def lw_privs_3 : List (MethodName × Nat) := [(⟨"OrdersMadeOneModel", "push", "(I)V"⟩, 48), (⟨"OrdersMadeOneModel", "pop", "()I"⟩, 48), (⟨"OrdersMadeOneModel", "costOf", "(I)I"⟩, 48), (⟨"OrdersMadeOneModel", "findRows", "()V"⟩, 48), (⟨"OrdersMadeOneModel", "putFound", "(I)V"⟩, 48), (⟨"OrdersMadeOneModel", "tryRow", "(II)V"⟩, 48), (⟨"OrdersMadeOneModel", "tryNow", "(II)V"⟩, 48), (⟨"OrdersMadeOneModel", "readAll", "()Z"⟩, 48), (⟨"OrdersMadeOneModel", "readOrder", "(I)Z"⟩, 48), (⟨"OrdersMadeOneModel", "copy", "(II)V"⟩, 48)]
theorem lw_r3 : ∀ q ∈ lw_privs_3, lw_okq q := List.forall_mem_cons.mpr ⟨lw_p32, List.forall_mem_cons.mpr ⟨lw_p33, List.forall_mem_cons.mpr ⟨lw_p34, List.forall_mem_cons.mpr ⟨lw_p35, List.forall_mem_cons.mpr ⟨lw_p36, List.forall_mem_cons.mpr ⟨lw_p37, List.forall_mem_cons.mpr ⟨lw_p38, List.forall_mem_cons.mpr ⟨lw_p39, List.forall_mem_cons.mpr ⟨lw_p40, List.forall_mem_cons.mpr ⟨lw_p41, fun _ h => absurd h List.not_mem_nil⟩⟩⟩⟩⟩⟩⟩⟩⟩⟩
def lw_privs : List (MethodName × Nat) := lw_privs_1 ++ (lw_privs_2 ++ (lw_privs_3))
def lw_tbl : List Cond := k2_sels lw_privs ++ tables_1
theorem lw_privs_ok : ∀ q ∈ lw_privs, lw_okq q := by
  show ∀ q ∈ lw_privs_1 ++ (lw_privs_2 ++ (lw_privs_3)), lw_okq q
  exact List.forall_mem_append.mpr ⟨lw_r1, List.forall_mem_append.mpr ⟨lw_r2, lw_r3⟩⟩
end
section
def RX0 : String := "OrdersMadeOne$Chooser"
def TX0 : u_T := fun k => match k with
  | 0 => ("OrdersMadeOne$Chooser", "rowCount", "I", false)
  | 1 => ("OrdersMadeOne$Chooser", "rows", "[I", true)
  | 2 => ("OrdersMadeOne$Chooser", "lastStands", "[I", true)
  | 3 => ("OrdersMadeOne$Chooser", "savedAlone", "[I", true)
  | 4 => ("OrdersMadeOne$Chooser", "savedFromHere", "[I", true)
  | 5 => ("OrdersMadeOne$Chooser", "standCount", "I", false)
  | 6 => ("OrdersMadeOne$Chooser", "places", "[I", true)
  | 7 => ("OrdersMadeOne$Chooser", "ends", "[I", true)
  | 8 => ("OrdersMadeOne$Chooser", "saves", "[I", true)
  | 9 => ("OrdersMadeOne$Chooser", "standsAhead", "[I", true)
  | 10 => ("OrdersMadeOne$Chooser", "stepPlaces", "[I", true)
  | 11 => ("OrdersMadeOne$Chooser", "stepSaved", "[I", true)
  | 12 => ("OrdersMadeOne$Chooser", "saved", "I", false)
  | 13 => ("OrdersMadeOne$Chooser", "first", "I", false)
  | _ => ("OrdersMadeOne$Chooser", "second", "I", false)
def tyX0 : Nat → FieldType := fun k => match k with
  | 0 => .int
  | 1 => .array .int
  | 2 => .array .int
  | 3 => .array .int
  | 4 => .array .int
  | 5 => .int
  | 6 => .array .int
  | 7 => .array .int
  | 8 => .array .int
  | 9 => .array .int
  | 10 => .array .int
  | 11 => .array .int
  | 12 => .int
  | 13 => .int
  | _ => .int
theorem nmX0 : ∀ a, a < 15 → ∀ b, b < 15 → a ≠ b → (TX0 a).2.1 ≠ (TX0 b).2.1 := by decide +kernel
theorem tyX0_ok : ∀ k, k < 15 → parseFieldDescriptor (TX0 k).2.2.1 = some (tyX0 k) := by decide +kernel
abbrev cX0_init : ByteArray := prog_2_method_1_code
def yX0_init : MethodName := ⟨RX0, "<init>", "()V"⟩
abbrev cX0_search : ByteArray := prog_2_method_2_code
def yX0_search : MethodName := ⟨RX0, "search", "(LOrdersMadeOne$State;IZ)I"⟩
abbrev cX0_gather : ByteArray := prog_2_method_3_code
def yX0_gather : MethodName := ⟨RX0, "gather", "(LOrdersMadeOne$State;Z)I"⟩
abbrev cX0_gatherAt : ByteArray := prog_2_method_4_code
def yX0_gatherAt : MethodName := ⟨RX0, "gatherAt", "(LOrdersMadeOne$Program;IIZ)V"⟩
abbrev cX0_addStand : ByteArray := prog_2_method_5_code
def yX0_addStand : MethodName := ⟨RX0, "addStand", "(IIII)V"⟩
abbrev cX0_findRow : ByteArray := prog_2_method_6_code
def yX0_findRow : MethodName := ⟨RX0, "findRow", "(I)I"⟩
abbrev cX0_chooseOne : ByteArray := prog_2_method_7_code
def yX0_chooseOne : MethodName := ⟨RX0, "chooseOne", "()V"⟩
abbrev cX0_chooseTwo : ByteArray := prog_2_method_8_code
def yX0_chooseTwo : MethodName := ⟨RX0, "chooseTwo", "()V"⟩
abbrev cX0_tryTwo : ByteArray := prog_2_method_9_code
def yX0_tryTwo : MethodName := ⟨RX0, "tryTwo", "(II)V"⟩
abbrev cX0_mostSaved : ByteArray := prog_2_method_10_code
def yX0_mostSaved : MethodName := ⟨RX0, "mostSaved", "(II)I"⟩
abbrev cX0_savedFrom : ByteArray := prog_2_method_11_code
def yX0_savedFrom : MethodName := ⟨RX0, "savedFrom", "(II)I"⟩
def RX1 : String := "OrdersMadeOne$Kind"
def TX1 : u_T := fun k => match k with
  | _ => ("", "", "", false)
def tyX1 : Nat → FieldType := fun k => match k with
  | _ => .int
theorem nmX1 : ∀ a, a < 0 → ∀ b, b < 0 → a ≠ b → (TX1 a).2.1 ≠ (TX1 b).2.1 := by decide +kernel
theorem tyX1_ok : ∀ k, k < 0 → parseFieldDescriptor (TX1 k).2.2.1 = some (tyX1 k) := by decide +kernel
abbrev cX1_isOne : ByteArray := prog_3_method_2_code
def yX1_isOne : MethodName := ⟨RX1, "isOne", "(I)Z"⟩
abbrev cX1_hasArgument : ByteArray := prog_3_method_3_code
def yX1_hasArgument : MethodName := ⟨RX1, "hasArgument", "(I)Z"⟩
abbrev cX1_fits : ByteArray := prog_3_method_4_code
def yX1_fits : MethodName := ⟨RX1, "fits", "(II)Z"⟩
abbrev cX1_leads : ByteArray := prog_3_method_5_code
def yX1_leads : MethodName := ⟨RX1, "leads", "(I)Z"⟩
abbrev cX1_isLastAlone : ByteArray := prog_3_method_6_code
def yX1_isLastAlone : MethodName := ⟨RX1, "isLastAlone", "(I)Z"⟩
def RX2 : String := "OrdersMadeOne$Packed"
def TX2 : u_T := fun k => match k with
  | 0 => ("OrdersMadeOne$Packed", "there", "Z", false)
  | 1 => ("OrdersMadeOne$Packed", "program", "LOrdersMadeOne$Program;", true)
  | 2 => ("OrdersMadeOne$Packed", "codeCount", "I", false)
  | 3 => ("OrdersMadeOne$Packed", "numbers", "[I", true)
  | 4 => ("OrdersMadeOne$Packed", "places", "[I", true)
  | 5 => ("OrdersMadeOne$Packed", "lengths", "[I", true)
  | 6 => ("OrdersMadeOne$Packed", "byteCount", "I", false)
  | 7 => ("OrdersMadeOne$Packed", "written", "[I", true)
  | _ => ("OrdersMadeOne$Packed", "codesAt", "[I", true)
def tyX2 : Nat → FieldType := fun k => match k with
  | 0 => .boolean
  | 1 => .object "OrdersMadeOne$Program"
  | 2 => .int
  | 3 => .array .int
  | 4 => .array .int
  | 5 => .array .int
  | 6 => .int
  | 7 => .array .int
  | _ => .array .int
theorem nmX2 : ∀ a, a < 9 → ∀ b, b < 9 → a ≠ b → (TX2 a).2.1 ≠ (TX2 b).2.1 := by decide +kernel
theorem tyX2_ok : ∀ k, k < 9 → parseFieldDescriptor (TX2 k).2.2.1 = some (tyX2 k) := by decide +kernel
abbrev cX2_init : ByteArray := prog_4_method_1_code
def yX2_init : MethodName := ⟨RX2, "<init>", "()V"⟩
abbrev cX2_hasCode : ByteArray := prog_4_method_2_code
def yX2_hasCode : MethodName := ⟨RX2, "hasCode", "(I)Z"⟩
abbrev cX2_hasByte : ByteArray := prog_4_method_3_code
def yX2_hasByte : MethodName := ⟨RX2, "hasByte", "(I)Z"⟩
abbrev cX2_beginsAt : ByteArray := prog_4_method_4_code
def yX2_beginsAt : MethodName := ⟨RX2, "beginsAt", "(I)Z"⟩
abbrev cX2_make : ByteArray := prog_4_method_5_code
def yX2_make : MethodName := ⟨RX2, "make", "(LOrdersMadeOne$Program;LOrdersMadeOne$Ways;)V"⟩
abbrev cX2_beginCode : ByteArray := prog_4_method_6_code
def yX2_beginCode : MethodName := ⟨RX2, "beginCode", "(III)V"⟩
abbrev cX2_write : ByteArray := prog_4_method_7_code
def yX2_write : MethodName := ⟨RX2, "write", "(I)V"⟩
abbrev cX2_copyFrom : ByteArray := prog_4_method_8_code
def yX2_copyFrom : MethodName := ⟨RX2, "copyFrom", "(LOrdersMadeOne$Packed;)V"⟩
def RX3 : String := "OrdersMadeOne$Program"
def TX3 : u_T := fun k => match k with
  | 0 => ("OrdersMadeOne$Program", "size", "I", false)
  | 1 => ("OrdersMadeOne$Program", "kinds", "[I", true)
  | 2 => ("OrdersMadeOne$Program", "arguments", "[I", true)
  | 3 => ("OrdersMadeOne$Program", "times", "[I", true)
  | _ => ("OrdersMadeOne$Program", "leading", "[I", true)
def tyX3 : Nat → FieldType := fun k => match k with
  | 0 => .int
  | 1 => .array .int
  | 2 => .array .int
  | 3 => .array .int
  | _ => .array .int
theorem nmX3 : ∀ a, a < 5 → ∀ b, b < 5 → a ≠ b → (TX3 a).2.1 ≠ (TX3 b).2.1 := by decide +kernel
theorem tyX3_ok : ∀ k, k < 5 → parseFieldDescriptor (TX3 k).2.2.1 = some (tyX3 k) := by decide +kernel
abbrev cX3_init : ByteArray := prog_5_method_1_code
def yX3_init : MethodName := ⟨RX3, "<init>", "()V"⟩
abbrev cX3_clear : ByteArray := prog_5_method_2_code
def yX3_clear : MethodName := ⟨RX3, "clear", "()V"⟩
abbrev cX3_forgetRun : ByteArray := prog_5_method_3_code
def yX3_forgetRun : MethodName := ⟨RX3, "forgetRun", "()V"⟩
abbrev cX3_has : ByteArray := prog_5_method_4_code
def yX3_has : MethodName := ⟨RX3, "has", "(I)Z"⟩
abbrev cX3_isLedTo : ByteArray := prog_5_method_5_code
def yX3_isLedTo : MethodName := ⟨RX3, "isLedTo", "(I)Z"⟩
abbrev cX3_append : ByteArray := prog_5_method_6_code
def yX3_append : MethodName := ⟨RX3, "append", "(II)Z"⟩
abbrev cX3_replace : ByteArray := prog_5_method_7_code
def yX3_replace : MethodName := ⟨RX3, "replace", "(II)Z"⟩
abbrev cX3_reach : ByteArray := prog_5_method_8_code
def yX3_reach : MethodName := ⟨RX3, "reach", "(I)I"⟩
abbrev cX3_weight : ByteArray := prog_5_method_9_code
def yX3_weight : MethodName := ⟨RX3, "weight", "(IZ)I"⟩
abbrev cX3_copyFrom : ByteArray := prog_5_method_10_code
def yX3_copyFrom : MethodName := ⟨RX3, "copyFrom", "(LOrdersMadeOne$Program;)V"⟩
def RX4 : String := "OrdersMadeOne$Row"
def TX4 : u_T := fun k => match k with
  | _ => ("", "", "", false)
def tyX4 : Nat → FieldType := fun k => match k with
  | _ => .int
theorem nmX4 : ∀ a, a < 0 → ∀ b, b < 0 → a ≠ b → (TX4 a).2.1 ≠ (TX4 b).2.1 := by decide +kernel
theorem tyX4_ok : ∀ k, k < 0 → parseFieldDescriptor (TX4 k).2.2.1 = some (tyX4 k) := by decide +kernel
abbrev cX4_of : ByteArray := prog_6_method_2_code
def yX4_of : MethodName := ⟨RX4, "of", "(IIIII)I"⟩
abbrev cX4_with : ByteArray := prog_6_method_3_code
def yX4_with : MethodName := ⟨RX4, "with", "(III)I"⟩
abbrev cX4_kind : ByteArray := prog_6_method_4_code
def yX4_kind : MethodName := ⟨RX4, "kind", "(II)I"⟩
def RX5 : String := "OrdersMadeOne$Rows"
def TX5 : u_T := fun k => match k with
  | 0 => ("OrdersMadeOne$Rows", "size", "I", false)
  | _ => ("OrdersMadeOne$Rows", "rows", "[I", true)
def tyX5 : Nat → FieldType := fun k => match k with
  | 0 => .int
  | _ => .array .int
theorem nmX5 : ∀ a, a < 2 → ∀ b, b < 2 → a ≠ b → (TX5 a).2.1 ≠ (TX5 b).2.1 := by decide +kernel
theorem tyX5_ok : ∀ k, k < 2 → parseFieldDescriptor (TX5 k).2.2.1 = some (tyX5 k) := by decide +kernel
abbrev cX5_init : ByteArray := prog_7_method_1_code
def yX5_init : MethodName := ⟨RX5, "<init>", "()V"⟩
abbrev cX5_append : ByteArray := prog_7_method_2_code
def yX5_append : MethodName := ⟨RX5, "append", "(I)Z"⟩
abbrev cX5_indexOf : ByteArray := prog_7_method_3_code
def yX5_indexOf : MethodName := ⟨RX5, "indexOf", "(I)I"⟩
abbrev cX5_kind : ByteArray := prog_7_method_4_code
def yX5_kind : MethodName := ⟨RX5, "kind", "(II)I"⟩
abbrev cX5_copyFrom : ByteArray := prog_7_method_5_code
def yX5_copyFrom : MethodName := ⟨RX5, "copyFrom", "(LOrdersMadeOne$Rows;)V"⟩
def RX6 : String := "OrdersMadeOne$Run"
def TX6 : u_T := fun k => match k with
  | 0 => ("OrdersMadeOne$Run", "there", "Z", false)
  | 1 => ("OrdersMadeOne$Run", "done", "I", false)
  | 2 => ("OrdersMadeOne$Run", "begun", "I", false)
  | 3 => ("OrdersMadeOne$Run", "place", "I", false)
  | 4 => ("OrdersMadeOne$Run", "pileSize", "I", false)
  | 5 => ("OrdersMadeOne$Run", "pile", "[I", true)
  | 6 => ("OrdersMadeOne$Run", "outSize", "I", false)
  | 7 => ("OrdersMadeOne$Run", "out", "[I", true)
  | _ => ("OrdersMadeOne$Run", "registers", "[I", true)
def tyX6 : Nat → FieldType := fun k => match k with
  | 0 => .boolean
  | 1 => .int
  | 2 => .int
  | 3 => .int
  | 4 => .int
  | 5 => .array .int
  | 6 => .int
  | 7 => .array .int
  | _ => .array .int
theorem nmX6 : ∀ a, a < 9 → ∀ b, b < 9 → a ≠ b → (TX6 a).2.1 ≠ (TX6 b).2.1 := by decide +kernel
theorem tyX6_ok : ∀ k, k < 9 → parseFieldDescriptor (TX6 k).2.2.1 = some (tyX6 k) := by decide +kernel
abbrev cX6_init : ByteArray := prog_8_method_1_code
def yX6_init : MethodName := ⟨RX6, "<init>", "()V"⟩
abbrev cX6_follow : ByteArray := prog_8_method_2_code
def yX6_follow : MethodName := ⟨RX6, "follow", "(LOrdersMadeOne$Program;LOrdersMadeOne$Packed;I)I"⟩
abbrev cX6_clear : ByteArray := prog_8_method_3_code
def yX6_clear : MethodName := ⟨RX6, "clear", "()V"⟩
abbrev cX6_endAhead : ByteArray := prog_8_method_4_code
def yX6_endAhead : MethodName := ⟨RX6, "endAhead", "(LOrdersMadeOne$Program;I)I"⟩
abbrev cX6_tryOrder : ByteArray := prog_8_method_5_code
def yX6_tryOrder : MethodName := ⟨RX6, "tryOrder", "(LOrdersMadeOne$Program;)I"⟩
abbrev cX6_carryOut : ByteArray := prog_8_method_6_code
def yX6_carryOut : MethodName := ⟨RX6, "carryOut", "(II)V"⟩
abbrev cX6_layOneForTwo : ByteArray := prog_8_method_7_code
def yX6_layOneForTwo : MethodName := ⟨RX6, "layOneForTwo", "(I)V"⟩
abbrev cX6_turnUpperTwo : ByteArray := prog_8_method_8_code
def yX6_turnUpperTwo : MethodName := ⟨RX6, "turnUpperTwo", "()V"⟩
abbrev cX6_lay : ByteArray := prog_8_method_9_code
def yX6_lay : MethodName := ⟨RX6, "lay", "(I)V"⟩
abbrev cX6_lift : ByteArray := prog_8_method_10_code
def yX6_lift : MethodName := ⟨RX6, "lift", "()I"⟩
abbrev cX6_copyFrom : ByteArray := prog_8_method_11_code
def yX6_copyFrom : MethodName := ⟨RX6, "copyFrom", "(LOrdersMadeOne$Run;)V"⟩
def RX7 : String := "OrdersMadeOne$State"
def TX7 : u_T := fun k => match k with
  | 0 => ("OrdersMadeOne$State", "programCount", "I", false)
  | 1 => ("OrdersMadeOne$State", "programs", "[LOrdersMadeOne$Program;", true)
  | 2 => ("OrdersMadeOne$State", "joined", "LOrdersMadeOne$Rows;", true)
  | 3 => ("OrdersMadeOne$State", "packed", "LOrdersMadeOne$Packed;", true)
  | 4 => ("OrdersMadeOne$State", "latest", "LOrdersMadeOne$Run;", true)
  | 5 => ("OrdersMadeOne$State", "wasAsked", "Z", false)
  | 6 => ("OrdersMadeOne$State", "chosen", "LOrdersMadeOne$Rows;", true)
  | _ => ("OrdersMadeOne$State", "told", "LOrdersMadeOne$Told;", true)
def tyX7 : Nat → FieldType := fun k => match k with
  | 0 => .int
  | 1 => .array (.object "OrdersMadeOne$Program")
  | 2 => .object "OrdersMadeOne$Rows"
  | 3 => .object "OrdersMadeOne$Packed"
  | 4 => .object "OrdersMadeOne$Run"
  | 5 => .boolean
  | 6 => .object "OrdersMadeOne$Rows"
  | _ => .object "OrdersMadeOne$Told"
theorem nmX7 : ∀ a, a < 8 → ∀ b, b < 8 → a ≠ b → (TX7 a).2.1 ≠ (TX7 b).2.1 := by decide +kernel
theorem tyX7_ok : ∀ k, k < 8 → parseFieldDescriptor (TX7 k).2.2.1 = some (tyX7 k) := by decide +kernel
abbrev cX7_init : ByteArray := prog_9_method_1_code
def yX7_init : MethodName := ⟨RX7, "<init>", "()V"⟩
abbrev cX7_hasProgram : ByteArray := prog_9_method_2_code
def yX7_hasProgram : MethodName := ⟨RX7, "hasProgram", "(I)Z"⟩
abbrev cX7_hasOrder : ByteArray := prog_9_method_3_code
def yX7_hasOrder : MethodName := ⟨RX7, "hasOrder", "(II)Z"⟩
abbrev cX7_copyFrom : ByteArray := prog_9_method_4_code
def yX7_copyFrom : MethodName := ⟨RX7, "copyFrom", "(LOrdersMadeOne$State;)V"⟩
def RX8 : String := "OrdersMadeOne$Told"
def TX8 : u_T := fun k => match k with
  | 0 => ("OrdersMadeOne$Told", "size", "I", false)
  | 1 => ("OrdersMadeOne$Told", "told", "[I", true)
  | _ => ("OrdersMadeOne$Told", "next", "I", false)
def tyX8 : Nat → FieldType := fun k => match k with
  | 0 => .int
  | 1 => .array .int
  | _ => .int
theorem nmX8 : ∀ a, a < 3 → ∀ b, b < 3 → a ≠ b → (TX8 a).2.1 ≠ (TX8 b).2.1 := by decide +kernel
theorem tyX8_ok : ∀ k, k < 3 → parseFieldDescriptor (TX8 k).2.2.1 = some (tyX8 k) := by decide +kernel
abbrev cX8_init : ByteArray := prog_10_method_1_code
def yX8_init : MethodName := ⟨RX8, "<init>", "()V"⟩
abbrev cX8_append : ByteArray := prog_10_method_2_code
def yX8_append : MethodName := ⟨RX8, "append", "(II)Z"⟩
abbrev cX8_readInto : ByteArray := prog_10_method_3_code
def yX8_readInto : MethodName := ⟨RX8, "readInto", "(LOrdersMadeOne$Program;LOrdersMadeOne$Rows;)Z"⟩
abbrev cX8_readCode : ByteArray := prog_10_method_4_code
def yX8_readCode : MethodName := ⟨RX8, "readCode", "(LOrdersMadeOne$Program;LOrdersMadeOne$Rows;I)Z"⟩
abbrev cX8_readOrder : ByteArray := prog_10_method_5_code
def yX8_readOrder : MethodName := ⟨RX8, "readOrder", "(LOrdersMadeOne$Program;I)Z"⟩
abbrev cX8_copyFrom : ByteArray := prog_10_method_6_code
def yX8_copyFrom : MethodName := ⟨RX8, "copyFrom", "(LOrdersMadeOne$Told;)V"⟩
def RX9 : String := "OrdersMadeOne$Ways"
def TX9 : u_T := fun k => match k with
  | 0 => ("OrdersMadeOne$Ways", "lengths", "[I", true)
  | 1 => ("OrdersMadeOne$Ways", "numbers", "[I", true)
  | _ => ("OrdersMadeOne$Ways", "least", "[I", true)
def tyX9 : Nat → FieldType := fun k => match k with
  | 0 => .array .int
  | 1 => .array .int
  | _ => .array .int
theorem nmX9 : ∀ a, a < 3 → ∀ b, b < 3 → a ≠ b → (TX9 a).2.1 ≠ (TX9 b).2.1 := by decide +kernel
theorem tyX9_ok : ∀ k, k < 3 → parseFieldDescriptor (TX9 k).2.2.1 = some (tyX9 k) := by decide +kernel
abbrev cX9_init : ByteArray := prog_11_method_1_code
def yX9_init : MethodName := ⟨RX9, "<init>", "()V"⟩
abbrev cX9_measure : ByteArray := prog_11_method_2_code
def yX9_measure : MethodName := ⟨RX9, "measure", "(LOrdersMadeOne$Program;LOrdersMadeOne$Rows;Z)I"⟩
abbrev cX9_begin : ByteArray := prog_11_method_3_code
def yX9_begin : MethodName := ⟨RX9, "begin", "(LOrdersMadeOne$Program;LOrdersMadeOne$Rows;I)V"⟩
def RX10 : String := "OrdersMadeOne"
def TX10 : u_T := fun k => match k with
  | 0 => ("OrdersMadeOne", "now", "LOrdersMadeOne$State;", true)
  | 1 => ("OrdersMadeOne", "images", "[LOrdersMadeOne$State;", true)
  | 2 => ("OrdersMadeOne", "ways", "LOrdersMadeOne$Ways;", true)
  | _ => ("OrdersMadeOne", "chooser", "LOrdersMadeOne$Chooser;", true)
def tyX10 : Nat → FieldType := fun k => match k with
  | 0 => .object "OrdersMadeOne$State"
  | 1 => .array (.object "OrdersMadeOne$State")
  | 2 => .object "OrdersMadeOne$Ways"
  | _ => .object "OrdersMadeOne$Chooser"
theorem nmX10 : ∀ a, a < 4 → ∀ b, b < 4 → a ≠ b → (TX10 a).2.1 ≠ (TX10 b).2.1 := by decide +kernel
theorem tyX10_ok : ∀ k, k < 4 → parseFieldDescriptor (TX10 k).2.2.1 = some (tyX10 k) := by decide +kernel
abbrev cX10_init : ByteArray := prog_1_method_1_code
def yX10_init : MethodName := ⟨RX10, "<init>", "()V"⟩
abbrev cX10_program : ByteArray := prog_1_method_2_code
def yX10_program : MethodName := ⟨RX10, "program", "()I"⟩
abbrev cX10_order : ByteArray := prog_1_method_3_code
def yX10_order : MethodName := ⟨RX10, "order", "(III)I"⟩
abbrev cX10_change : ByteArray := prog_1_method_4_code
def yX10_change : MethodName := ⟨RX10, "change", "(III)Z"⟩
abbrev cX10_tell : ByteArray := prog_1_method_5_code
def yX10_tell : MethodName := ⟨RX10, "tell", "(III)I"⟩
abbrev cX10_join : ByteArray := prog_1_method_6_code
def yX10_join : MethodName := ⟨RX10, "join", "(IIIII)I"⟩
abbrev cX10_part : ByteArray := prog_1_method_7_code
def yX10_part : MethodName := ⟨RX10, "part", "()V"⟩
abbrev cX10_joined : ByteArray := prog_1_method_8_code
def yX10_joined : MethodName := ⟨RX10, "joined", "(II)I"⟩
abbrev cX10_pack : ByteArray := prog_1_method_9_code
def yX10_pack : MethodName := ⟨RX10, "pack", "(I)I"⟩
abbrev cX10_code : ByteArray := prog_1_method_10_code
def yX10_code : MethodName := ⟨RX10, "code", "(II)I"⟩
abbrev cX10_bytes : ByteArray := prog_1_method_11_code
def yX10_bytes : MethodName := ⟨RX10, "bytes", "(I)I"⟩
abbrev cX10_run : ByteArray := prog_1_method_12_code
def yX10_run : MethodName := ⟨RX10, "run", "(IZI)I"⟩
abbrev cX10_ran : ByteArray := prog_1_method_13_code
def yX10_ran : MethodName := ⟨RX10, "ran", "(I)I"⟩
abbrev cX10_had : ByteArray := prog_1_method_14_code
def yX10_had : MethodName := ⟨RX10, "had", "(II)I"⟩
abbrev cX10_cost : ByteArray := prog_1_method_15_code
def yX10_cost : MethodName := ⟨RX10, "cost", "(Z)I"⟩
abbrev cX10_choose : ByteArray := prog_1_method_16_code
def yX10_choose : MethodName := ⟨RX10, "choose", "(IZ)I"⟩
abbrev cX10_chosen : ByteArray := prog_1_method_17_code
def yX10_chosen : MethodName := ⟨RX10, "chosen", "(II)I"⟩
abbrev cX10_take : ByteArray := prog_1_method_18_code
def yX10_take : MethodName := ⟨RX10, "take", "()I"⟩
abbrev cX10_feed : ByteArray := prog_1_method_19_code
def yX10_feed : MethodName := ⟨RX10, "feed", "(II)I"⟩
abbrev cX10_read : ByteArray := prog_1_method_20_code
def yX10_read : MethodName := ⟨RX10, "read", "()I"⟩
abbrev cX10_count : ByteArray := prog_1_method_21_code
def yX10_count : MethodName := ⟨RX10, "count", "(I)I"⟩
abbrev cX10_image : ByteArray := prog_1_method_22_code
def yX10_image : MethodName := ⟨RX10, "image", "(I)Z"⟩
abbrev cX10_again : ByteArray := prog_1_method_23_code
def yX10_again : MethodName := ⟨RX10, "again", "(I)Z"⟩
abbrev cX10_numberOf : ByteArray := prog_1_method_24_code
def yX10_numberOf : MethodName := ⟨RX10, "numberOf", "([III)I"⟩
def RX11 : String := "OrdersMadeOneModel"
def TX11 : u_T := fun k => match k with
  | 0 => ("OrdersMadeOneModel", "code", "I", false)
  | 1 => ("OrdersMadeOneModel", "programs", "[I", true)
  | 2 => ("OrdersMadeOneModel", "size", "[I", true)
  | 3 => ("OrdersMadeOneModel", "kind", "[I", true)
  | 4 => ("OrdersMadeOneModel", "argument", "[I", true)
  | 5 => ("OrdersMadeOneModel", "done", "[I", true)
  | 6 => ("OrdersMadeOneModel", "joins", "[I", true)
  | 7 => ("OrdersMadeOneModel", "join", "[I", true)
  | 8 => ("OrdersMadeOneModel", "packedSize", "[I", true)
  | 9 => ("OrdersMadeOneModel", "packedKind", "[I", true)
  | 10 => ("OrdersMadeOneModel", "packedArgument", "[I", true)
  | 11 => ("OrdersMadeOneModel", "packedCodes", "[I", true)
  | 12 => ("OrdersMadeOneModel", "packed", "[I", true)
  | 13 => ("OrdersMadeOneModel", "packedBytes", "[I", true)
  | 14 => ("OrdersMadeOneModel", "byteRow", "[I", true)
  | 15 => ("OrdersMadeOneModel", "ended", "[I", true)
  | 16 => ("OrdersMadeOneModel", "ranDone", "[I", true)
  | 17 => ("OrdersMadeOneModel", "ranCodes", "[I", true)
  | 18 => ("OrdersMadeOneModel", "ranPlace", "[I", true)
  | 19 => ("OrdersMadeOneModel", "piled", "[I", true)
  | 20 => ("OrdersMadeOneModel", "pile", "[I", true)
  | 21 => ("OrdersMadeOneModel", "outs", "[I", true)
  | 22 => ("OrdersMadeOneModel", "out", "[I", true)
  | 23 => ("OrdersMadeOneModel", "register", "[I", true)
  | 24 => ("OrdersMadeOneModel", "rowsChosen", "[I", true)
  | 25 => ("OrdersMadeOneModel", "chosenRow", "[I", true)
  | 26 => ("OrdersMadeOneModel", "told", "[I", true)
  | 27 => ("OrdersMadeOneModel", "toldByte", "[I", true)
  | 28 => ("OrdersMadeOneModel", "tries", "I", false)
  | 29 => ("OrdersMadeOneModel", "row", "[I", true)
  | 30 => ("OrdersMadeOneModel", "led", "[Z", true)
  | 31 => ("OrdersMadeOneModel", "least", "[I", true)
  | 32 => ("OrdersMadeOneModel", "runKind", "[I", true)
  | 33 => ("OrdersMadeOneModel", "runArgument", "[I", true)
  | 34 => ("OrdersMadeOneModel", "runDone", "[I", true)
  | 35 => ("OrdersMadeOneModel", "begins", "[Z", true)
  | 36 => ("OrdersMadeOneModel", "found", "[I", true)
  | 37 => ("OrdersMadeOneModel", "gain", "[I", true)
  | 38 => ("OrdersMadeOneModel", "many", "I", false)
  | 39 => ("OrdersMadeOneModel", "bestCost", "I", false)
  | 40 => ("OrdersMadeOneModel", "bestMany", "I", false)
  | 41 => ("OrdersMadeOneModel", "best", "[I", true)
  | 42 => ("OrdersMadeOneModel", "now", "[I", true)
  | 43 => ("OrdersMadeOneModel", "readKind", "[I", true)
  | 44 => ("OrdersMadeOneModel", "readArgument", "[I", true)
  | 45 => ("OrdersMadeOneModel", "reads", "I", false)
  | 46 => ("OrdersMadeOneModel", "next", "I", false)
  | _ => ("OrdersMadeOneModel", "has", "[Z", true)
def tyX11 : Nat → FieldType := fun k => match k with
  | 0 => .int
  | 1 => .array .int
  | 2 => .array .int
  | 3 => .array .int
  | 4 => .array .int
  | 5 => .array .int
  | 6 => .array .int
  | 7 => .array .int
  | 8 => .array .int
  | 9 => .array .int
  | 10 => .array .int
  | 11 => .array .int
  | 12 => .array .int
  | 13 => .array .int
  | 14 => .array .int
  | 15 => .array .int
  | 16 => .array .int
  | 17 => .array .int
  | 18 => .array .int
  | 19 => .array .int
  | 20 => .array .int
  | 21 => .array .int
  | 22 => .array .int
  | 23 => .array .int
  | 24 => .array .int
  | 25 => .array .int
  | 26 => .array .int
  | 27 => .array .int
  | 28 => .int
  | 29 => .array .int
  | 30 => .array .boolean
  | 31 => .array .int
  | 32 => .array .int
  | 33 => .array .int
  | 34 => .array .int
  | 35 => .array .boolean
  | 36 => .array .int
  | 37 => .array .int
  | 38 => .int
  | 39 => .int
  | 40 => .int
  | 41 => .array .int
  | 42 => .array .int
  | 43 => .array .int
  | 44 => .array .int
  | 45 => .int
  | 46 => .int
  | _ => .array .boolean
theorem nmX11 : ∀ a, a < 48 → ∀ b, b < 48 → a ≠ b → (TX11 a).2.1 ≠ (TX11 b).2.1 := by decide +kernel
theorem tyX11_ok : ∀ k, k < 48 → parseFieldDescriptor (TX11 k).2.2.1 = some (tyX11 k) := by decide +kernel
abbrev cX11_init : ByteArray := prog_13_method_1_code
def yX11_init : MethodName := ⟨RX11, "<init>", "()V"⟩
abbrev cX11_in : ByteArray := prog_13_method_3_code
def yX11_in : MethodName := ⟨RX11, "in", "(III)Z"⟩
abbrev cX11_move : ByteArray := prog_13_method_4_code
def yX11_move : MethodName := ⟨RX11, "move", "([IIII)V"⟩
abbrev cX11_copy : ByteArray := prog_13_method_5_code
def yX11_copy : MethodName := ⟨RX11, "copy", "(II)V"⟩
abbrev cX11_isProgram : ByteArray := prog_13_method_6_code
def yX11_isProgram : MethodName := ⟨RX11, "isProgram", "(I)Z"⟩
abbrev cX11_hasArgument : ByteArray := prog_13_method_7_code
def yX11_hasArgument : MethodName := ⟨RX11, "hasArgument", "(I)Z"⟩
abbrev cX11_isArgument : ByteArray := prog_13_method_8_code
def yX11_isArgument : MethodName := ⟨RX11, "isArgument", "(II)Z"⟩
abbrev cX11_forget : ByteArray := prog_13_method_9_code
def yX11_forget : MethodName := ⟨RX11, "forget", "(I)V"⟩
abbrev cX11_program : ByteArray := prog_13_method_10_code
def yX11_program : MethodName := ⟨RX11, "program", "()I"⟩
abbrev cX11_order : ByteArray := prog_13_method_11_code
def yX11_order : MethodName := ⟨RX11, "order", "(III)I"⟩
abbrev cX11_change : ByteArray := prog_13_method_12_code
def yX11_change : MethodName := ⟨RX11, "change", "(III)Z"⟩
abbrev cX11_isLed : ByteArray := prog_13_method_13_code
def yX11_isLed : MethodName := ⟨RX11, "isLed", "(II)Z"⟩
abbrev cX11_tell : ByteArray := prog_13_method_14_code
def yX11_tell : MethodName := ⟨RX11, "tell", "(III)I"⟩
abbrev cX11_isLast : ByteArray := prog_13_method_15_code
def yX11_isLast : MethodName := ⟨RX11, "isLast", "(I)Z"⟩
abbrev cX11_join : ByteArray := prog_13_method_16_code
def yX11_join : MethodName := ⟨RX11, "join", "(IIIII)I"⟩
abbrev cX11_part : ByteArray := prog_13_method_17_code
def yX11_part : MethodName := ⟨RX11, "part", "()V"⟩
abbrev cX11_joined : ByteArray := prog_13_method_18_code
def yX11_joined : MethodName := ⟨RX11, "joined", "(II)I"⟩
abbrev cX11_readLed : ByteArray := prog_13_method_19_code
def yX11_readLed : MethodName := ⟨RX11, "readLed", "(I)V"⟩
abbrev cX11_stands : ByteArray := prog_13_method_20_code
def yX11_stands : MethodName := ⟨RX11, "stands", "(III)Z"⟩
abbrev cX11_findLeast : ByteArray := prog_13_method_21_code
def yX11_findLeast : MethodName := ⟨RX11, "findLeast", "(II)V"⟩
abbrev cX11_takeJoins : ByteArray := prog_13_method_22_code
def yX11_takeJoins : MethodName := ⟨RX11, "takeJoins", "()V"⟩
abbrev cX11_costOf : ByteArray := prog_13_method_23_code
def yX11_costOf : MethodName := ⟨RX11, "costOf", "(I)I"⟩
abbrev cX11_putByte : ByteArray := prog_13_method_24_code
def yX11_putByte : MethodName := ⟨RX11, "putByte", "(I)V"⟩
abbrev cX11_pack : ByteArray := prog_13_method_25_code
def yX11_pack : MethodName := ⟨RX11, "pack", "(I)I"⟩
abbrev cX11_code : ByteArray := prog_13_method_26_code
def yX11_code : MethodName := ⟨RX11, "code", "(II)I"⟩
abbrev cX11_bytes : ByteArray := prog_13_method_27_code
def yX11_bytes : MethodName := ⟨RX11, "bytes", "(I)I"⟩
abbrev cX11_wants : ByteArray := prog_13_method_28_code
def yX11_wants : MethodName := ⟨RX11, "wants", "(I)I"⟩
abbrev cX11_push : ByteArray := prog_13_method_29_code
def yX11_push : MethodName := ⟨RX11, "push", "(I)V"⟩
abbrev cX11_pop : ByteArray := prog_13_method_30_code
def yX11_pop : MethodName := ⟨RX11, "pop", "()I"⟩
abbrev cX11_worked : ByteArray := prog_13_method_31_code
def yX11_worked : MethodName := ⟨RX11, "worked", "(III)I"⟩
abbrev cX11_does : ByteArray := prog_13_method_32_code
def yX11_does : MethodName := ⟨RX11, "does", "(I)I"⟩
abbrev cX11_runs : ByteArray := prog_13_method_33_code
def yX11_runs : MethodName := ⟨RX11, "runs", "(II)I"⟩
abbrev cX11_run : ByteArray := prog_13_method_34_code
def yX11_run : MethodName := ⟨RX11, "run", "(IZI)I"⟩
abbrev cX11_ran : ByteArray := prog_13_method_35_code
def yX11_ran : MethodName := ⟨RX11, "ran", "(I)I"⟩
abbrev cX11_had : ByteArray := prog_13_method_36_code
def yX11_had : MethodName := ⟨RX11, "had", "(II)I"⟩
abbrev cX11_cost : ByteArray := prog_13_method_37_code
def yX11_cost : MethodName := ⟨RX11, "cost", "(Z)I"⟩
abbrev cX11_putFound : ByteArray := prog_13_method_38_code
def yX11_putFound : MethodName := ⟨RX11, "putFound", "(I)V"⟩
abbrev cX11_findRows : ByteArray := prog_13_method_39_code
def yX11_findRows : MethodName := ⟨RX11, "findRows", "()V"⟩
abbrev cX11_tryRow : ByteArray := prog_13_method_40_code
def yX11_tryRow : MethodName := ⟨RX11, "tryRow", "(II)V"⟩
abbrev cX11_tryNow : ByteArray := prog_13_method_41_code
def yX11_tryNow : MethodName := ⟨RX11, "tryNow", "(II)V"⟩
abbrev cX11_choose : ByteArray := prog_13_method_42_code
def yX11_choose : MethodName := ⟨RX11, "choose", "(IZ)I"⟩
abbrev cX11_chosen : ByteArray := prog_13_method_43_code
def yX11_chosen : MethodName := ⟨RX11, "chosen", "(II)I"⟩
abbrev cX11_take : ByteArray := prog_13_method_44_code
def yX11_take : MethodName := ⟨RX11, "take", "()I"⟩
abbrev cX11_feed : ByteArray := prog_13_method_45_code
def yX11_feed : MethodName := ⟨RX11, "feed", "(II)I"⟩
abbrev cX11_readOrder : ByteArray := prog_13_method_46_code
def yX11_readOrder : MethodName := ⟨RX11, "readOrder", "(I)Z"⟩
abbrev cX11_readAll : ByteArray := prog_13_method_47_code
def yX11_readAll : MethodName := ⟨RX11, "readAll", "()Z"⟩
abbrev cX11_read : ByteArray := prog_13_method_48_code
def yX11_read : MethodName := ⟨RX11, "read", "()I"⟩
abbrev cX11_count : ByteArray := prog_13_method_49_code
def yX11_count : MethodName := ⟨RX11, "count", "(I)I"⟩
abbrev cX11_image : ByteArray := prog_13_method_50_code
def yX11_image : MethodName := ⟨RX11, "image", "(I)Z"⟩
abbrev cX11_again : ByteArray := prog_13_method_51_code
def yX11_again : MethodName := ⟨RX11, "again", "(I)Z"⟩
def RJ9 : String := "java/lang/Math"
def TJ9 : u_T := fun k => match k with
  | _ => ("", "", "", false)
def tyJ9 : Nat → FieldType := fun k => match k with
  | _ => .int
theorem nmJ9 : ∀ a, a < 0 → ∀ b, b < 0 → a ≠ b → (TJ9 a).2.1 ≠ (TJ9 b).2.1 := by decide +kernel
theorem tyJ9_ok : ∀ k, k < 0 → parseFieldDescriptor (TJ9 k).2.2.1 = some (tyJ9 k) := by decide +kernel
abbrev cJ9_max_7cf53 : ByteArray := prog_14_method_65_code
def yJ9_max_7cf53 : MethodName := ⟨RJ9, "max", "(II)I"⟩
def RJ10 : String := "java/lang/System"
def TJ10 : u_T := fun k => match k with
  | _ => ("", "", "", false)
def tyJ10 : Nat → FieldType := fun k => match k with
  | _ => .int
theorem nmJ10 : ∀ a, a < 0 → ∀ b, b < 0 → a ≠ b → (TJ10 a).2.1 ≠ (TJ10 b).2.1 := by decide +kernel
theorem tyJ10_ok : ∀ k, k < 0 → parseFieldDescriptor (TJ10 k).2.2.1 = some (tyJ10 k) := by decide +kernel
def RJ7 : String := "java/util/Arrays"
def TJ7 : u_T := fun k => match k with
  | _ => ("", "", "", false)
def tyJ7 : Nat → FieldType := fun k => match k with
  | _ => .int
theorem nmJ7 : ∀ a, a < 0 → ∀ b, b < 0 → a ≠ b → (TJ7 a).2.1 ≠ (TJ7 b).2.1 := by decide +kernel
theorem tyJ7_ok : ∀ k, k < 0 → parseFieldDescriptor (TJ7 k).2.2.1 = some (tyJ7 k) := by decide +kernel
abbrev cJ7_fill_53178 : ByteArray := prog_16_method_103_code
def yJ7_fill_53178 : MethodName := ⟨RJ7, "fill", "([II)V"⟩
def RL : String := "OrdersMadeOneLaw"
abbrev cL_law : ByteArray := code
def yL_law : MethodName := ⟨RL, "law", "([I)Z"⟩
end
section
/-! the abstract machine: a method's run over a heap of numbered cells, each with its shape, its ints and its pointers -/
abbrev MI : Type := MethodName × ByteArray × Nat × Option FieldType
abbrev ASh : Type := Nat → Nat × Nat
abbrev AIn : Type := Nat → Nat → Int32
abbrev APt : Type := Nat → Nat → Option Nat
abbrev APo : Type := Option Int32 → ASh → AIn → APt → Prop
def am_tb : List Cond := lw_tbl.filter goodWord
theorem am_in {w : Cond} (i : Nat) (h : tables_1[i]? = some w) (hg : goodWord w = true) : w ∈ am_tb := List.mem_filter.mpr ⟨List.mem_append_right _ (List.mem_of_getElem? h), hg⟩
theorem am_inP {w : Cond} (i : Nat) (h : (k2_sels lw_privs)[i]? = some w) (hg : goodWord w = true) : w ∈ am_tb := List.mem_filter.mpr ⟨List.mem_append_left _ (List.mem_of_getElem? h), hg⟩
theorem am_good : ∀ w ∈ am_tb, (w.onTables && w.keeps) = true ∨ ∃ ty, w = .arrayClass ty := fun _ h => good_of_word (List.mem_filter.mp h).2
theorem am_goodIn {a b : Cond} (h : b ∈ am_tb) : GoodIn (a :: am_tb) (b :: am_tb) := fun w hw => by
  rcases List.mem_cons.mp hw with rfl | hw
  · exact ⟨List.mem_cons_of_mem _ h, am_good _ h⟩
  · exact ⟨List.mem_cons_of_mem _ hw, am_good _ hw⟩
def am_cl : List vw_C := [(RX0, TX0, 15), (RX2, TX2, 9), (RX3, TX3, 5), (RX5, TX5, 2), (RX6, TX6, 9), (RX7, TX7, 8), (RX8, TX8, 3), (RX9, TX9, 3), (RX10, TX10, 4), (RX11, TX11, 48)]
def am_ty (ci : Nat) : Nat → FieldType := match ci with
  | 0 => tyX0 | 1 => tyX2 | 2 => tyX3 | 3 => tyX5 | 4 => tyX6 | 5 => tyX7 | 6 => tyX8 | 7 => tyX9 | 8 => tyX10 | _ => tyX11
def am_tys (t : Nat → ClassId) : List (ClassId × FieldType) := [(t 0, .int), (t 1, .boolean), (t 2, .object RX3), (t 3, .object RX7)]
def am_isR (t : FieldType) : Bool := match t with
  | .object _ => true
  | .array _ => true
  | _ => false
def cv (ad : Nat → Nat) (v : Value) : Value := match v with
  | .ref k => .ref (ad k)
  | w => w
def am_rf (ad : Nat → Nat) (q : Option Nat) : Value := match q with
  | none => .null
  | some k => .ref (ad k)
def am_vr (q : Option Nat) : Value := match q with
  | none => .null
  | some k => .ref k
theorem cv_vr (ad : Nat → Nat) (q : Option Nat) : cv ad (am_vr q) = am_rf ad q := by cases q <;> rfl
def am_ov (ci : Nat) (ad : Nat → Nat) (Ik : Nat → Int32) (Pk : Nat → Option Nat) : Nat → Value := fun j => if am_isR (am_ty ci j) = true then am_rf ad (Pk j) else .int (Ik j)
def am_at (D : va_G) (t : Nat → ClassId) (ad : Nat → Nat) (q : Nat × Nat) (Ik : Nat → Int32) (Pk : Nat → Option Nat) (a : Nat) (H : Heap) : Prop := match q.1 with
  | 0 => True
  | 1 => ∃ r : vw_C, am_cl[q.2]? = some r ∧ t_OB a (D.1 q.2) r.2.2 (D.2 q.2) H (am_ov q.2 ad Ik Pk)
  | 2 => H[a]? = some (arrV (t 0) q.2 (fun j => .int (Ik j)))
  | 3 => H[a]? = some (arrV (t 1) q.2 (fun j => .int (Ik j)))
  | 4 => H[a]? = some (arrV (t 2) q.2 (fun j => am_rf ad (Pk j)))
  | 5 => H[a]? = some (arrV (t 3) q.2 (fun j => am_rf ad (Pk j)))
  | _ => False
def am_W (D : va_G) (t : Nat → ClassId) (A : Nat → Prop) (ad : Nat → Nat) (sh : ASh) (I : AIn) (P : APt) (H : Heap) : Prop :=
  (∀ k, (sh k).1 ≠ 0 → A (ad k)) ∧ (∀ i j, (sh i).1 ≠ 0 → (sh j).1 ≠ 0 → ad i = ad j → i = j) ∧ (∀ k j q, (sh k).1 ≠ 0 → P k j = some q → (sh q).1 ≠ 0) ∧ ∀ k, am_at D t ad (sh k) (I k) (P k) (ad k) H
def am_sn (i : Nat) : String := match i with
  | 0 => "WANTS" | 1 => "LEAVES" | 2 => "LEAST_ARGUMENT" | _ => "MOST_ARGUMENT"
def am_st (i : Nat) : Nat → Int32 := fun j => match i with
  | 0 => ([0, 2, 2, 2, 1, 2, 1, 0, 1, 0, 1, 2, 1, 0, 0, 0] : List Int32).getD j 0
  | 1 => ([1, 1, 1, 1, 2, 2, 0, 1, 0, 0, 0, 1, 0, 0, 0, 0] : List Int32).getD j 0
  | 2 => ([-128, 0, 0, 0, 0, 0, 0, 0, 0, 0, 0, 0, 0, 0, 0, 0] : List Int32).getD j 0
  | _ => ([127, 0, 0, 0, 0, 0, 0, 7, 7, 39, 39, 0, 0, 0, 0, 7] : List Int32).getD j 0
def am_ne : List (String × Nat × MethodName × String) := [(RX10, 22, yX9_init, RX10), (RX10, 29, yX0_init, RX10), (RX2, 11, yX3_init, RX10), (RX7, 17, yX5_init, RX10), (RX7, 24, yX2_init, RX10), (RX7, 31, yX6_init, RX10), (RX7, 41, yX8_init, RX10), (RX7, 46, yX3_init, RX10)]
def am_N (D : va_G) (t : Nat → ClassId) (A : Nat → Prop) (U : State) (H : Heap) : Prop :=
  va_K D am_cl (am_tys t) U ∧ (va_AO RX3 U ∧ va_AO RX7 U) ∧ (∀ q ∈ am_ne, va_Nw (.methodLinkNest q.1 q.2.1 q.2.2.1 q.2.2.2) U) ∧ ∀ i, i < 4 → ∃ a, va_Z RX1 (am_sn i) "[I" (.ref a) A U H ∧ va_T .int a 16 (fun j => .int (am_st i j)) A U H
theorem am_N.moved {D : va_G} {t : Nat → ClassId} {A : Nat → Prop} {u U : State} {H H1 : Heap} (h : am_N D t A u H) (hW : u.WarmedH U.vm) (hq : ∀ a : Nat, a < H.size → ¬ A a → H1[a]? = H[a]?) : am_N D t A U H1 := by
  obtain ⟨h1, ⟨h2, h3⟩, h4, h5⟩ := h
  refine ⟨va_K.moved hW.alike h1, ⟨h2.moved hW.alike, h3.moved hW.alike⟩, fun q hq2 => va_Nw.warmM hW (h4 q hq2), fun i hi => ?_⟩
  obtain ⟨a, g1, g2⟩ := h5 i hi
  exact ⟨a, (g1.moved hW.alike).kept hq, (g2.moved hW.alike).kept hq⟩
theorem am_N.same {D : va_G} {t : Nat → ClassId} {A : Nat → Prop} {u U : State} {H : Heap} (h : am_N D t A u H) (e : u.vm = U.vm) : am_N D t A U H := by
  have hA : u.vm.Alike U.vm := by rw [← e]; exact Vm.Alike.refl _
  obtain ⟨h1, ⟨h2, h3⟩, h4, h5⟩ := h
  refine ⟨va_K.moved hA h1, ⟨h2.moved hA, h3.moved hA⟩, fun q hq2 => va_Nw.same rfl e (h4 q hq2), fun i hi => ?_⟩
  obtain ⟨a, g1, g2⟩ := h5 i hi
  exact ⟨a, g1.moved hA, g2.moved hA⟩
def am_ok (sh : ASh) (v : Value) : Prop := match v with
  | .int _ => True
  | .null => True
  | .ref k => (sh k).1 ≠ 0
  | _ => False
def am_L (ad : Nat → Nat) (ls : Array Slot) (n : Nat) (lv : List (Option Value)) : Prop := lv.length = n ∧ ls.size = n ∧ lv_wf ls ∧ ∀ (i : Nat) (v : Value), lv[i]? = some (some v) → ls[i]? = some (.val (cv ad v))
def am_C (mi : MI) (fr lo mc ms : Nat) (D : va_G) (t : Nat → ClassId) (A : Nat → Prop) (p : Program) (R : Room) (s : State) (m : MethodId) (args : Array Value) (meth : Method) (c : Code) : Prop :=
  p.tables.exec = Jvm.exec ∧ c.code = mi.2.1 ∧ c.maxLocals = mi.2.2.1 ∧ meth.sig.returnType = mi.2.2.2 ∧ s.vm.findClass mi.1.cls = some m.cls ∧ (∀ w ∈ am_tb, w.before args s = true) ∧ meth.locks = false ∧ meth.name = mi.1.name ∧ (fr ≤ R.frames ∧ lo ≤ R.locals ∧ mc ≤ R.cells ∧ ms ≤ R.slots) ∧ am_N D t A s s.heap ∧ ∀ q, s.heap.size ≤ q → A q
def am_E (sh0 : ASh) (ad0 : Nat → Nat) (sh : ASh) (ad : Nat → Nat) : Prop := ∀ k, (sh0 k).1 ≠ 0 → (sh k).1 ≠ 0 ∧ ad k = ad0 k
def am_X (D : va_G) (t : Nat → ClassId) (A : Nat → Prop) (sh0 : ASh) (ad0 ad : Nat → Nat) (H0 H : Heap) (locs : List Loc) (ls : Array Slot) (n : Nat) (lv : List (Option Value)) (st : List Value) (sh : ASh) (I : AIn) (P : APt) : Prop :=
  am_W D t A ad sh I P H ∧ am_E sh0 ad0 sh ad ∧ va_S A H0 H locs ∧ am_L ad ls n lv ∧ (∀ v ∈ st, am_ok sh v) ∧ ∀ (i : Nat) (v : Value), lv[i]? = some (some v) → am_ok sh v
def am_Q (D : va_G) (t : Nat → ClassId) (A : Nat → Prop) (ad0 : Nat → Nat) (sh0 : ASh) (post : APo) : Array Value → State → Outcome → State → Prop := fun _ st oc u =>
  (∃ (r : Option Int32) (ad : Nat → Nat) (sh : ASh) (I : AIn) (P : APt), oc = .returned (r.map Value.int) ∧ post r sh I P ∧ am_E sh0 ad0 sh ad ∧ am_W D t A ad sh I P u.heap) ∧ va_F A st u
/-- the run of a method from pc on, with room, cells and slots still to spend, comes to its end with post -/
def am_R (mi : MI) (post : APo) (fr lo c0 s0 pc : Nat) (lv : List (Option Value)) (st : List Value) (sh : ASh) (I : AIn) (P : APt) : Prop :=
  ∀ (l : Launch) (p : Program) (e : Env) (R : Room) (s : State) (m : MethodId) (args : Array Value) (below : List Frame) (meth : Method) (c : Code) (D : va_G) (t : Nat → ClassId) (A : Nat → Prop) (sh0 : ASh) (ad0 ad : Nat → Nat) (mc ms : Nat) (H : Heap) (locs : List Loc) (cells slots : Nat) (ls : Array Slot),
    am_C mi fr lo mc ms D t A p R s m args meth c → cells + c0 = mc → slots + s0 = ms → am_X D t A sh0 ad0 ad s.heap H locs ls mi.2.2.1 lv st sh I P →
    W p l e R s m args below meth c H locs cells slots (MQ below (am_Q D t A ad0 sh0 post) args s mc ms A) (F0 m pc ls (st.map (cv ad)))
theorem am_okc {sh : ASh} {v : Value} {st : List Value} (h : am_ok sh v) (h2 : ∀ w ∈ st, am_ok sh w) : ∀ w ∈ v :: st, am_ok sh w := fun w hw => by
  rcases List.mem_cons.mp hw with rfl | hw
  · exact h
  · exact h2 w hw
theorem am_okt {sh : ASh} {v : Value} {st : List Value} (h : ∀ w ∈ v :: st, am_ok sh w) : ∀ w ∈ st, am_ok sh w := fun w hw => h w (List.mem_cons_of_mem _ hw)
theorem am_okh {sh : ASh} {v : Value} {st : List Value} (h : ∀ w ∈ v :: st, am_ok sh w) : am_ok sh v := h v List.mem_cons_self
theorem am_cat {sh : ASh} {v : Value} (h : am_ok sh v) : v.category = 1 := by cases v <;> first | rfl | exact h.elim
theorem am_catc {sh : ASh} {v : Value} (ad : Nat → Nat) (h : am_ok sh v) : (cv ad v).category = 1 := by cases v <;> first | rfl | exact h.elim
section AMR
variable {mi : MI} {post : APo} {fr lo c0 s0 pc : Nat} {lv : List (Option Value)} {st : List Value} {sh : ASh} {I : AIn} {P : APt}
theorem am_pure {st' : List Value} {pc' : Nat} (hk : am_R mi post fr lo c0 s0 pc' lv st' sh I P)
    (hok : (∀ v ∈ st, am_ok sh v) → (∀ (i : Nat) (v : Value), lv[i]? = some (some v) → am_ok sh v) → ∀ v ∈ st', am_ok sh v)
    (hW : ∀ {l : Launch} {p : Program} {e : Env} {R : Room} {s : State} {m : MethodId} {args : Array Value} {below : List Frame} {meth : Method} {c : Code} {H : Heap} {locs : List Loc} {cells slots : Nat} {Q : State → Prop} {ad : Nat → Nat} {ls : Array Slot}, p.tables.exec = Jvm.exec → c.code = mi.2.1 → (∀ (i : Nat) (v : Value), lv[i]? = some (some v) → ls[i]? = some (.val (cv ad v))) → (∀ v ∈ st, am_ok sh v) →
      W p l e R s m args below meth c H locs cells slots Q (F0 m pc' ls (st'.map (cv ad))) → W p l e R s m args below meth c H locs cells slots Q (F0 m pc ls (st.map (cv ad)))) : am_R mi post fr lo c0 s0 pc lv st sh I P := by
  intro l p e R s m args below meth c D t A sh0 ad0 ad mc ms H locs cells slots ls C hc hs X
  obtain ⟨x1, x2, x3, x4, x5, x6⟩ := X
  exact hW C.1 C.2.1 x4.2.2.2 x5 (hk l p e R s m args below meth c D t A sh0 ad0 ad mc ms H locs cells slots ls C hc hs ⟨x1, x2, x3, x4, hok x5 x6, x6⟩)
theorem am_two {st' : List Value} {pc1 pc2 : Nat} {B : Prop} (h1 : B → am_R mi post fr lo c0 s0 pc1 lv st' sh I P) (h2 : ¬ B → am_R mi post fr lo c0 s0 pc2 lv st' sh I P)
    (hok : (∀ v ∈ st, am_ok sh v) → ∀ v ∈ st', am_ok sh v)
    (hW : ∀ {l : Launch} {p : Program} {e : Env} {R : Room} {s : State} {m : MethodId} {args : Array Value} {below : List Frame} {meth : Method} {c : Code} {H : Heap} {locs : List Loc} {cells slots : Nat} {Q : State → Prop} {ad : Nat → Nat} {ls : Array Slot}, p.tables.exec = Jvm.exec → c.code = mi.2.1 →
      (B → W p l e R s m args below meth c H locs cells slots Q (F0 m pc1 ls (st'.map (cv ad)))) → (¬ B → W p l e R s m args below meth c H locs cells slots Q (F0 m pc2 ls (st'.map (cv ad)))) → W p l e R s m args below meth c H locs cells slots Q (F0 m pc ls (st.map (cv ad)))) : am_R mi post fr lo c0 s0 pc lv st sh I P := by
  intro l p e R s m args below meth c D t A sh0 ad0 ad mc ms H locs cells slots ls C hc hs X
  obtain ⟨x1, x2, x3, x4, x5, x6⟩ := X
  exact hW C.1 C.2.1 (fun b => h1 b l p e R s m args below meth c D t A sh0 ad0 ad mc ms H locs cells slots ls C hc hs ⟨x1, x2, x3, x4, hok x5, x6⟩) (fun b => h2 b l p e R s m args below meth c D t A sh0 ad0 ad mc ms H locs cells slots ls C hc hs ⟨x1, x2, x3, x4, hok x5, x6⟩)
theorem r_iconst {n : Int} {v : Int32} (d : decode mi.2.1 pc = .ok (.iconst n, 1)) (hv : Int32.ofInt n = v) (k : am_R mi post fr lo c0 s0 (pc + 1) lv (.int v :: st) sh I P) : am_R mi post fr lo c0 s0 pc lv st sh I P :=
  am_pure k (fun h _ => am_okc trivial h) (fun hx hb _ _ kk => lv_iconst hx hb d hv kk)
theorem r_bipush {n : Int} {v : Int32} (d : decode mi.2.1 pc = .ok (.bipush n, 2)) (hv : (Int8.ofInt n).toInt32 = v) (k : am_R mi post fr lo c0 s0 (pc + 2) lv (.int v :: st) sh I P) : am_R mi post fr lo c0 s0 pc lv st sh I P :=
  am_pure k (fun h _ => am_okc trivial h) (fun hx hb _ _ kk => lv_bipush hx hb d hv kk)
theorem r_sipush {n : Int} {v : Int32} (d : decode mi.2.1 pc = .ok (.sipush n, 3)) (hv : (Int16.ofInt n).toInt32 = v) (k : am_R mi post fr lo c0 s0 (pc + 3) lv (.int v :: st) sh I P) : am_R mi post fr lo c0 s0 pc lv st sh I P :=
  am_pure k (fun h _ => am_okc trivial h) (fun hx hb _ _ kk => lv_sipush hx hb d hv kk)
theorem r_null (d : decode mi.2.1 pc = .ok (.aconst_null, 1)) (k : am_R mi post fr lo c0 s0 (pc + 1) lv (.null :: st) sh I P) : am_R mi post fr lo c0 s0 pc lv st sh I P :=
  am_pure k (fun h _ => am_okc trivial h) (fun hx hb _ _ kk => lv_null hx hb d kk)
theorem r_iload_n {j : Fin 4} {x : Int32} (d : decode mi.2.1 pc = .ok (.iload_n j, 1)) (h : lv[(j : Nat)]? = some (some (.int x))) (k : am_R mi post fr lo c0 s0 (pc + 1) lv (.int x :: st) sh I P) : am_R mi post fr lo c0 s0 pc lv st sh I P :=
  am_pure k (fun h _ => am_okc trivial h) (fun hx hb hl _ kk => lv_iload_n hx hb d rfl (hl _ _ h) kk)
theorem r_iload {j : Nat} {x : Int32} (d : decode mi.2.1 pc = .ok (.iload j, 2)) (h : lv[j]? = some (some (.int x))) (k : am_R mi post fr lo c0 s0 (pc + 2) lv (.int x :: st) sh I P) : am_R mi post fr lo c0 s0 pc lv st sh I P :=
  am_pure k (fun h _ => am_okc trivial h) (fun hx hb hl _ kk => lv_iload hx hb d (hl _ _ h) kk)
theorem r_aload_n {j : Fin 4} {x : Nat} (d : decode mi.2.1 pc = .ok (.aload_n j, 1)) (h : lv[(j : Nat)]? = some (some (.ref x))) (k : am_R mi post fr lo c0 s0 (pc + 1) lv (.ref x :: st) sh I P) : am_R mi post fr lo c0 s0 pc lv st sh I P :=
  am_pure k (fun h2 h3 => am_okc (h3 _ _ h) h2) (fun hx hb hl _ kk => lv_aload_n hx hb d rfl (hl _ _ h) kk)
theorem r_aload {j : Nat} {x : Nat} (d : decode mi.2.1 pc = .ok (.aload j, 2)) (h : lv[j]? = some (some (.ref x))) (k : am_R mi post fr lo c0 s0 (pc + 2) lv (.ref x :: st) sh I P) : am_R mi post fr lo c0 s0 pc lv st sh I P :=
  am_pure k (fun h2 h3 => am_okc (h3 _ _ h) h2) (fun hx hb hl _ kk => lv_aload hx hb d (hl _ _ h) kk)
theorem r_aload_nN {j : Fin 4} (d : decode mi.2.1 pc = .ok (.aload_n j, 1)) (h : lv[(j : Nat)]? = some (some .null)) (k : am_R mi post fr lo c0 s0 (pc + 1) lv (.null :: st) sh I P) : am_R mi post fr lo c0 s0 pc lv st sh I P :=
  am_pure k (fun h2 _ => am_okc trivial h2) (fun hx hb hl _ kk => lv_aload_nN hx hb d rfl (hl _ _ h) kk)
theorem r_iadd {x y : Int32} (d : decode mi.2.1 pc = .ok (.iadd, 1)) (k : am_R mi post fr lo c0 s0 (pc + 1) lv (.int (x + y) :: st) sh I P) : am_R mi post fr lo c0 s0 pc lv (.int y :: .int x :: st) sh I P :=
  am_pure k (fun h _ => am_okc trivial (am_okt (am_okt h))) (fun hx hb _ _ kk => lv_iadd hx hb d kk)
theorem r_isub {x y : Int32} (d : decode mi.2.1 pc = .ok (.isub, 1)) (k : am_R mi post fr lo c0 s0 (pc + 1) lv (.int (x - y) :: st) sh I P) : am_R mi post fr lo c0 s0 pc lv (.int y :: .int x :: st) sh I P :=
  am_pure k (fun h _ => am_okc trivial (am_okt (am_okt h))) (fun hx hb _ _ kk => lv_isub hx hb d kk)
theorem r_imul {x y : Int32} (d : decode mi.2.1 pc = .ok (.imul, 1)) (k : am_R mi post fr lo c0 s0 (pc + 1) lv (.int (x * y) :: st) sh I P) : am_R mi post fr lo c0 s0 pc lv (.int y :: .int x :: st) sh I P :=
  am_pure k (fun h _ => am_okc trivial (am_okt (am_okt h))) (fun hx hb _ _ kk => lv_imul hx hb d kk)
theorem r_idiv {x y : Int32} (d : decode mi.2.1 pc = .ok (.idiv, 1)) (hy : ¬ y = 0) (k : am_R mi post fr lo c0 s0 (pc + 1) lv (.int (x / y) :: st) sh I P) : am_R mi post fr lo c0 s0 pc lv (.int y :: .int x :: st) sh I P :=
  am_pure k (fun h _ => am_okc trivial (am_okt (am_okt h))) (fun hx hb _ _ kk => lv_idiv hx hb d hy kk)
theorem r_irem {x y : Int32} (d : decode mi.2.1 pc = .ok (.irem, 1)) (hy : ¬ y = 0) (k : am_R mi post fr lo c0 s0 (pc + 1) lv (.int (x - x / y * y) :: st) sh I P) : am_R mi post fr lo c0 s0 pc lv (.int y :: .int x :: st) sh I P :=
  am_pure k (fun h _ => am_okc trivial (am_okt (am_okt h))) (fun hx hb _ _ kk => lv_irem hx hb d hy kk)
theorem r_iand {x y : Int32} (d : decode mi.2.1 pc = .ok (.iand, 1)) (k : am_R mi post fr lo c0 s0 (pc + 1) lv (.int (x &&& y) :: st) sh I P) : am_R mi post fr lo c0 s0 pc lv (.int y :: .int x :: st) sh I P :=
  am_pure k (fun h _ => am_okc trivial (am_okt (am_okt h))) (fun hx hb _ _ kk => lv_iand hx hb d kk)
theorem r_ior {x y : Int32} (d : decode mi.2.1 pc = .ok (.ior, 1)) (k : am_R mi post fr lo c0 s0 (pc + 1) lv (.int (x ||| y) :: st) sh I P) : am_R mi post fr lo c0 s0 pc lv (.int y :: .int x :: st) sh I P :=
  am_pure k (fun h _ => am_okc trivial (am_okt (am_okt h))) (fun hx hb _ _ kk => lv_ior hx hb d kk)
theorem r_ishl {x y : Int32} (d : decode mi.2.1 pc = .ok (.ishl, 1)) (k : am_R mi post fr lo c0 s0 (pc + 1) lv (.int (x <<< (y &&& 31)) :: st) sh I P) : am_R mi post fr lo c0 s0 pc lv (.int y :: .int x :: st) sh I P :=
  am_pure k (fun h _ => am_okc trivial (am_okt (am_okt h))) (fun hx hb _ _ kk => lv_ishl hx hb d kk)
theorem r_ishr {x y : Int32} (d : decode mi.2.1 pc = .ok (.ishr, 1)) (k : am_R mi post fr lo c0 s0 (pc + 1) lv (.int (x >>> (y &&& 31)) :: st) sh I P) : am_R mi post fr lo c0 s0 pc lv (.int y :: .int x :: st) sh I P :=
  am_pure k (fun h _ => am_okc trivial (am_okt (am_okt h))) (fun hx hb _ _ kk => lv_ishr hx hb d kk)
theorem r_iushr {x y : Int32} (d : decode mi.2.1 pc = .ok (.iushr, 1)) (k : am_R mi post fr lo c0 s0 (pc + 1) lv (.int ((x.toUInt32 >>> (y.toUInt32 &&& Int32.toUInt32 31)).toInt32) :: st) sh I P) : am_R mi post fr lo c0 s0 pc lv (.int y :: .int x :: st) sh I P :=
  am_pure k (fun h _ => am_okc trivial (am_okt (am_okt h))) (fun hx hb _ _ kk => lv_iushr hx hb d rfl kk)
theorem r_i2b {x : Int32} (d : decode mi.2.1 pc = .ok (.i2b, 1)) (k : am_R mi post fr lo c0 s0 (pc + 1) lv (.int x.toInt8.toInt32 :: st) sh I P) : am_R mi post fr lo c0 s0 pc lv (.int x :: st) sh I P :=
  am_pure k (fun h _ => am_okc trivial (am_okt h)) (fun hx hb _ _ kk => lv_i2b hx hb d rfl kk)
theorem r_dup {v : Value} (d : decode mi.2.1 pc = .ok (.dup, 1)) (k : am_R mi post fr lo c0 s0 (pc + 1) lv (v :: v :: st) sh I P) : am_R mi post fr lo c0 s0 pc lv (v :: st) sh I P :=
  am_pure k (fun h _ => am_okc (am_okh h) h) (fun {_ _ _ _ _ _ _ _ _ _ _ _ _ _ _ ad _} hx hb _ h kk => lv_dup hx hb d (am_catc ad (am_okh h)) kk)
theorem r_dup2 {v w : Value} (d : decode mi.2.1 pc = .ok (.dup2, 1)) (k : am_R mi post fr lo c0 s0 (pc + 1) lv (v :: w :: v :: w :: st) sh I P) : am_R mi post fr lo c0 s0 pc lv (v :: w :: st) sh I P :=
  am_pure k (fun h _ => am_okc (am_okh h) (am_okc (am_okh (am_okt h)) h)) (fun {_ _ _ _ _ _ _ _ _ _ _ _ _ _ _ ad _} hx hb _ h kk => lv_dup2_11 hx hb d (am_catc ad (am_okh h)) (am_catc ad (am_okh (am_okt h))) kk)
theorem r_pop {v : Value} (d : decode mi.2.1 pc = .ok (.pop, 1)) (k : am_R mi post fr lo c0 s0 (pc + 1) lv st sh I P) : am_R mi post fr lo c0 s0 pc lv (v :: st) sh I P :=
  am_pure k (fun h _ => am_okt h) (fun {_ _ _ _ _ _ _ _ _ _ _ _ _ _ _ ad _} hx hb _ h kk => lv_pop hx hb d (am_catc ad (am_okh h)) kk)
theorem r_goto {off : Int} (tgt : Nat) (d : decode mi.2.1 pc = .ok (.goto off, 3)) (ht : (pc : Int) + off = (tgt : Int)) (k : am_R mi post fr lo c0 s0 tgt lv st sh I P) : am_R mi post fr lo c0 s0 pc lv st sh I P :=
  am_pure k (fun h _ => h) (fun hx hb _ _ kk => lv_goto hx hb d ht kk)
theorem r_ifnull {x : Nat} {off : Int} (d : decode mi.2.1 pc = .ok (.ifnull off, 3)) (k : am_R mi post fr lo c0 s0 (pc + 3) lv st sh I P) : am_R mi post fr lo c0 s0 pc lv (.ref x :: st) sh I P :=
  am_pure k (fun h _ => am_okt h) (fun hx hb _ _ kk => lv_ifnull hx hb d kk)
theorem r_ifnullN {off : Int} (tgt : Nat) (d : decode mi.2.1 pc = .ok (.ifnull off, 3)) (ht : (pc : Int) + off = (tgt : Int)) (k : am_R mi post fr lo c0 s0 tgt lv st sh I P) : am_R mi post fr lo c0 s0 pc lv (.null :: st) sh I P :=
  am_pure k (fun h _ => am_okt h) (fun hx hb _ _ kk => lv_ifnullN hx hb d ht kk)
theorem r_ifnonnull {x : Nat} {off : Int} (tgt : Nat) (d : decode mi.2.1 pc = .ok (.ifnonnull off, 3)) (ht : (pc : Int) + off = (tgt : Int)) (k : am_R mi post fr lo c0 s0 tgt lv st sh I P) : am_R mi post fr lo c0 s0 pc lv (.ref x :: st) sh I P :=
  am_pure k (fun h _ => am_okt h) (fun hx hb _ _ kk => lv_ifnonnull hx hb d ht kk)
theorem r_ifnonnullN {off : Int} (d : decode mi.2.1 pc = .ok (.ifnonnull off, 3)) (k : am_R mi post fr lo c0 s0 (pc + 3) lv st sh I P) : am_R mi post fr lo c0 s0 pc lv (.null :: st) sh I P :=
  am_pure k (fun h _ => am_okt h) (fun hx hb _ _ kk => lv_ifnonnullN hx hb d kk)
theorem r_if_eq {x : Int32} {off : Int} (tgt : Nat) (d : decode mi.2.1 pc = .ok (.ifCond .eq off, 3)) (ht : (pc : Int) + off = (tgt : Int)) (k1 : x = 0 → am_R mi post fr lo c0 s0 tgt lv st sh I P) (k2 : ¬ x = 0 → am_R mi post fr lo c0 s0 (pc + 3) lv st sh I P) : am_R mi post fr lo c0 s0 pc lv (.int x :: st) sh I P :=
  am_two k1 k2 (fun h => am_okt h) (fun hx hb a b => lv_if_eq hx hb d ht a b)
theorem r_if_ne {x : Int32} {off : Int} (tgt : Nat) (d : decode mi.2.1 pc = .ok (.ifCond .ne off, 3)) (ht : (pc : Int) + off = (tgt : Int)) (k1 : ¬ x = 0 → am_R mi post fr lo c0 s0 tgt lv st sh I P) (k2 : x = 0 → am_R mi post fr lo c0 s0 (pc + 3) lv st sh I P) : am_R mi post fr lo c0 s0 pc lv (.int x :: st) sh I P :=
  am_two k2 k1 (fun h => am_okt h) (fun hx hb a b => lv_if_ne hx hb d ht b a)
theorem r_if_lt {x : Int32} {off : Int} (tgt : Nat) (d : decode mi.2.1 pc = .ok (.ifCond .lt off, 3)) (ht : (pc : Int) + off = (tgt : Int)) (k1 : x < 0 → am_R mi post fr lo c0 s0 tgt lv st sh I P) (k2 : ¬ x < 0 → am_R mi post fr lo c0 s0 (pc + 3) lv st sh I P) : am_R mi post fr lo c0 s0 pc lv (.int x :: st) sh I P :=
  am_two k1 k2 (fun h => am_okt h) (fun hx hb a b => lv_if_lt hx hb d ht a b)
theorem r_if_ge {x : Int32} {off : Int} (tgt : Nat) (d : decode mi.2.1 pc = .ok (.ifCond .ge off, 3)) (ht : (pc : Int) + off = (tgt : Int)) (k1 : 0 ≤ x → am_R mi post fr lo c0 s0 tgt lv st sh I P) (k2 : ¬ 0 ≤ x → am_R mi post fr lo c0 s0 (pc + 3) lv st sh I P) : am_R mi post fr lo c0 s0 pc lv (.int x :: st) sh I P :=
  am_two k1 k2 (fun h => am_okt h) (fun hx hb a b => lv_if_ge hx hb d ht a b)
theorem r_if_gt {x : Int32} {off : Int} (tgt : Nat) (d : decode mi.2.1 pc = .ok (.ifCond .gt off, 3)) (ht : (pc : Int) + off = (tgt : Int)) (k1 : 0 < x → am_R mi post fr lo c0 s0 tgt lv st sh I P) (k2 : ¬ 0 < x → am_R mi post fr lo c0 s0 (pc + 3) lv st sh I P) : am_R mi post fr lo c0 s0 pc lv (.int x :: st) sh I P :=
  am_two k1 k2 (fun h => am_okt h) (fun hx hb a b => lv_if_gt hx hb d ht a b)
theorem r_if_le {x : Int32} {off : Int} (tgt : Nat) (d : decode mi.2.1 pc = .ok (.ifCond .le off, 3)) (ht : (pc : Int) + off = (tgt : Int)) (k1 : x ≤ 0 → am_R mi post fr lo c0 s0 tgt lv st sh I P) (k2 : ¬ x ≤ 0 → am_R mi post fr lo c0 s0 (pc + 3) lv st sh I P) : am_R mi post fr lo c0 s0 pc lv (.int x :: st) sh I P :=
  am_two k1 k2 (fun h => am_okt h) (fun hx hb a b => lv_if_le hx hb d ht a b)
theorem r_icmp_eq {x y : Int32} {off : Int} (tgt : Nat) (d : decode mi.2.1 pc = .ok (.if_icmp .eq off, 3)) (ht : (pc : Int) + off = (tgt : Int)) (k1 : x = y → am_R mi post fr lo c0 s0 tgt lv st sh I P) (k2 : ¬ x = y → am_R mi post fr lo c0 s0 (pc + 3) lv st sh I P) : am_R mi post fr lo c0 s0 pc lv (.int y :: .int x :: st) sh I P :=
  am_two k1 k2 (fun h => am_okt (am_okt h)) (fun hx hb a b => lv_icmp_eq hx hb d ht a b)
theorem r_icmp_lt {x y : Int32} {off : Int} (tgt : Nat) (d : decode mi.2.1 pc = .ok (.if_icmp .lt off, 3)) (ht : (pc : Int) + off = (tgt : Int)) (k1 : x < y → am_R mi post fr lo c0 s0 tgt lv st sh I P) (k2 : ¬ x < y → am_R mi post fr lo c0 s0 (pc + 3) lv st sh I P) : am_R mi post fr lo c0 s0 pc lv (.int y :: .int x :: st) sh I P :=
  am_two k1 k2 (fun h => am_okt (am_okt h)) (fun hx hb a b => lv_icmp_lt hx hb d ht a b)
theorem r_icmp_ge {x y : Int32} {off : Int} (tgt : Nat) (d : decode mi.2.1 pc = .ok (.if_icmp .ge off, 3)) (ht : (pc : Int) + off = (tgt : Int)) (k1 : y ≤ x → am_R mi post fr lo c0 s0 tgt lv st sh I P) (k2 : ¬ y ≤ x → am_R mi post fr lo c0 s0 (pc + 3) lv st sh I P) : am_R mi post fr lo c0 s0 pc lv (.int y :: .int x :: st) sh I P :=
  am_two k1 k2 (fun h => am_okt (am_okt h)) (fun hx hb a b => lv_icmp_ge hx hb d ht a b)
theorem r_icmp_gt {x y : Int32} {off : Int} (tgt : Nat) (d : decode mi.2.1 pc = .ok (.if_icmp .gt off, 3)) (ht : (pc : Int) + off = (tgt : Int)) (k1 : y < x → am_R mi post fr lo c0 s0 tgt lv st sh I P) (k2 : ¬ y < x → am_R mi post fr lo c0 s0 (pc + 3) lv st sh I P) : am_R mi post fr lo c0 s0 pc lv (.int y :: .int x :: st) sh I P :=
  am_two k1 k2 (fun h => am_okt (am_okt h)) (fun hx hb a b => lv_icmp_gt hx hb d ht a b)
theorem r_icmp_le {x y : Int32} {off : Int} (tgt : Nat) (d : decode mi.2.1 pc = .ok (.if_icmp .le off, 3)) (ht : (pc : Int) + off = (tgt : Int)) (k1 : x ≤ y → am_R mi post fr lo c0 s0 tgt lv st sh I P) (k2 : ¬ x ≤ y → am_R mi post fr lo c0 s0 (pc + 3) lv st sh I P) : am_R mi post fr lo c0 s0 pc lv (.int y :: .int x :: st) sh I P :=
  am_two k1 k2 (fun h => am_okt (am_okt h)) (fun hx hb a b => lv_icmp_le hx hb d ht a b)
theorem r_icmp_ne {x y : Int32} {off : Int} (tgt : Nat) (d : decode mi.2.1 pc = .ok (.if_icmp .ne off, 3)) (ht : (pc : Int) + off = (tgt : Int)) (k1 : ¬ x = y → am_R mi post fr lo c0 s0 tgt lv st sh I P) (k2 : x = y → am_R mi post fr lo c0 s0 (pc + 3) lv st sh I P) : am_R mi post fr lo c0 s0 pc lv (.int y :: .int x :: st) sh I P :=
  am_two k2 k1 (fun h => am_okt (am_okt h)) (fun hx hb a b => lv_icmp_ne hx hb d ht b a)
theorem r_tabIn {dflt lw hi : Int} {offs : Array Int} {len : Nat} {x : Int32} {off : Int} (tgt : Nat) (d : decode mi.2.1 pc = .ok (.tableswitch dflt lw hi offs, len)) (h1 : ¬ x.toInt < lw) (h2 : ¬ hi < x.toInt) (ho : offs[(x.toInt - lw).toNat]? = some off) (ht : (pc : Int) + off = (tgt : Int)) (k : am_R mi post fr lo c0 s0 tgt lv st sh I P) : am_R mi post fr lo c0 s0 pc lv (.int x :: st) sh I P :=
  am_pure k (fun h _ => am_okt h) (fun hx hb _ _ kk => lv_tableIn hx hb d h1 h2 ho ht kk)
theorem r_tabOut {dflt lw hi : Int} {offs : Array Int} {len : Nat} {x : Int32} (tgt : Nat) (d : decode mi.2.1 pc = .ok (.tableswitch dflt lw hi offs, len)) (h : x.toInt < lw ∨ hi < x.toInt) (ht : (pc : Int) + dflt = (tgt : Int)) (k : am_R mi post fr lo c0 s0 tgt lv st sh I P) : am_R mi post fr lo c0 s0 pc lv (.int x :: st) sh I P :=
  am_pure k (fun h _ => am_okt h) (fun hx hb _ _ kk => lv_tableOut hx hb d h ht kk)
/-! stores into the slots of a frame -/
def am_ll (ad : Nat → Nat) (lv : List (Option Value)) : List (Nat × Value) := (List.range lv.length).filterMap (fun i => match lv[i]? with
  | some (some v) => some (i, cv ad v)
  | _ => none)
theorem am_ll_mem {ad : Nat → Nat} {lv : List (Option Value)} {i : Nat} {v : Value} (h : lv[i]? = some (some v)) : (i, cv ad v) ∈ am_ll ad lv := by
  have hl := (List.getElem?_eq_some_iff.mp h).1
  refine List.mem_filterMap.mpr ⟨i, List.mem_range.mpr hl, ?_⟩
  rw [h]
theorem am_L.has {ad : Nat → Nat} {ls : Array Slot} {n : Nat} {lv : List (Option Value)} (h : am_L ad ls n lv) : lv_has ls n (am_ll ad lv) := by
  obtain ⟨h1, h2, h3, h4⟩ := h
  refine ⟨h2, h3, fun q hq => ?_⟩
  obtain ⟨i, -, hi⟩ := List.mem_filterMap.mp hq
  cases hv : lv[i]? with
  | none => rw [hv] at hi; cases hi
  | some o =>
    cases o with
    | none => rw [hv] at hi; cases hi
    | some v =>
      rw [hv] at hi
      cases hi
      exact h4 i v hv
theorem am_L.set {ad : Nat → Nat} {ls ls' : Array Slot} {n i : Nat} {lv : List (Option Value)} {v : Value} {sh : ASh} (h : am_L ad ls n lv) (hok : ∀ (i : Nat) (v : Value), lv[i]? = some (some v) → am_ok sh v) (hi : i < n)
    (h2 : lv_has ls' n ((i, cv ad v) :: (am_ll ad lv).filter (fun q => !(q.1 == i) && !(q.1 + 1 == i && q.2.category == 2)))) : am_L ad ls' n (lv.set i (some v)) := by
  obtain ⟨g1, g2, g3⟩ := h2
  refine ⟨by rw [List.length_set]; exact h.1, g1, g2, fun j w hj => ?_⟩
  by_cases hji : j = i
  · subst hji
    rw [List.getElem?_set_self (by rw [h.1]; exact hi)] at hj
    cases hj
    exact g3 _ List.mem_cons_self
  · rw [List.getElem?_set_ne (Ne.symm hji)] at hj
    refine g3 (j, cv ad w) (List.mem_cons_of_mem _ (List.mem_filter.mpr ⟨am_ll_mem hj, ?_⟩))
    simp [hji, am_catc ad (hok j w hj)]
theorem am_ok_set {lv : List (Option Value)} {sh : ASh} {i : Nat} {v : Value} (hok : ∀ (i : Nat) (v : Value), lv[i]? = some (some v) → am_ok sh v) (hv : am_ok sh v) : ∀ (j : Nat) (w : Value), (lv.set i (some v))[j]? = some (some w) → am_ok sh w := fun j w hj => by
  by_cases hji : j = i
  · subst hji
    have hl : j < lv.length := by
      have := (List.getElem?_eq_some_iff.mp hj).1
      rw [List.length_set] at this
      exact this
    rw [List.getElem?_set_self hl] at hj
    cases hj
    exact hv
  · rw [List.getElem?_set_ne (Ne.symm hji)] at hj
    exact hok j w hj
theorem am_lvlt {ad : Nat → Nat} {ls : Array Slot} {n i : Nat} {lv : List (Option Value)} (h : am_L ad ls n lv) (hi : i < lv.length) : i < n := by rw [← h.1]; exact hi
theorem r_istore_n {j : Fin 4} {x : Int32} (d : decode mi.2.1 pc = .ok (.istore_n j, 1)) (hj : (j : Nat) < lv.length) (k : am_R mi post fr lo c0 s0 (pc + 1) (lv.set (j : Nat) (some (.int x))) st sh I P) : am_R mi post fr lo c0 s0 pc lv (.int x :: st) sh I P := by
  intro l p e R s m args below meth c D t A sh0 ad0 ad mc ms H locs cells slots ls C hc hs X
  obtain ⟨x1, x2, x3, x4, x5, x6⟩ := X
  exact lv_istore_n C.1 C.2.1 d rfl x4.has (am_lvlt x4 hj) rfl (fun ls' hl' => k l p e R s m args below meth c D t A sh0 ad0 ad mc ms H locs cells slots ls' C hc hs ⟨x1, x2, x3, x4.set (v := .int x) x6 (am_lvlt x4 hj) hl', am_okt x5, am_ok_set x6 (am_okh x5)⟩)
theorem r_istore {j : Nat} {x : Int32} (d : decode mi.2.1 pc = .ok (.istore j, 2)) (hj : j < lv.length) (k : am_R mi post fr lo c0 s0 (pc + 2) (lv.set j (some (.int x))) st sh I P) : am_R mi post fr lo c0 s0 pc lv (.int x :: st) sh I P := by
  intro l p e R s m args below meth c D t A sh0 ad0 ad mc ms H locs cells slots ls C hc hs X
  obtain ⟨x1, x2, x3, x4, x5, x6⟩ := X
  exact lv_istore C.1 C.2.1 d x4.has (am_lvlt x4 hj) rfl (fun ls' hl' => k l p e R s m args below meth c D t A sh0 ad0 ad mc ms H locs cells slots ls' C hc hs ⟨x1, x2, x3, x4.set (v := .int x) x6 (am_lvlt x4 hj) hl', am_okt x5, am_ok_set x6 (am_okh x5)⟩)
theorem r_astore_n {j : Fin 4} {x : Nat} (d : decode mi.2.1 pc = .ok (.astore_n j, 1)) (hj : (j : Nat) < lv.length) (k : am_R mi post fr lo c0 s0 (pc + 1) (lv.set (j : Nat) (some (.ref x))) st sh I P) : am_R mi post fr lo c0 s0 pc lv (.ref x :: st) sh I P := by
  intro l p e R s m args below meth c D t A sh0 ad0 ad mc ms H locs cells slots ls C hc hs X
  obtain ⟨x1, x2, x3, x4, x5, x6⟩ := X
  exact lv_astore_n C.1 C.2.1 d rfl x4.has (am_lvlt x4 hj) rfl (fun ls' hl' => k l p e R s m args below meth c D t A sh0 ad0 ad mc ms H locs cells slots ls' C hc hs ⟨x1, x2, x3, x4.set (v := .ref x) x6 (am_lvlt x4 hj) hl', am_okt x5, am_ok_set x6 (am_okh x5)⟩)
theorem r_astore {j : Nat} {x : Nat} (d : decode mi.2.1 pc = .ok (.astore j, 2)) (hj : j < lv.length) (k : am_R mi post fr lo c0 s0 (pc + 2) (lv.set j (some (.ref x))) st sh I P) : am_R mi post fr lo c0 s0 pc lv (.ref x :: st) sh I P := by
  intro l p e R s m args below meth c D t A sh0 ad0 ad mc ms H locs cells slots ls C hc hs X
  obtain ⟨x1, x2, x3, x4, x5, x6⟩ := X
  exact lv_astore C.1 C.2.1 d x4.has (am_lvlt x4 hj) rfl (fun ls' hl' => k l p e R s m args below meth c D t A sh0 ad0 ad mc ms H locs cells slots ls' C hc hs ⟨x1, x2, x3, x4.set (v := .ref x) x6 (am_lvlt x4 hj) hl', am_okt x5, am_ok_set x6 (am_okh x5)⟩)
theorem r_iinc {j : Nat} {n : Int} {x v : Int32} (d : decode mi.2.1 pc = .ok (.iinc j n, 3)) (h : lv[j]? = some (some (.int x))) (hv : x + Int32.ofInt n = v) (k : am_R mi post fr lo c0 s0 (pc + 3) (lv.set j (some (.int v))) st sh I P) : am_R mi post fr lo c0 s0 pc lv st sh I P := by
  intro l p e R s m args below meth c D t A sh0 ad0 ad mc ms H locs cells slots ls C hc hs X
  obtain ⟨x1, x2, x3, x4, x5, x6⟩ := X
  have hj : j < lv.length := (List.getElem?_eq_some_iff.mp h).1
  obtain ⟨q, hq⟩ := List.getElem?_of_mem (am_ll_mem (ad := ad) h)
  exact lv_iinc C.1 C.2.1 d x4.has hq hv (am_lvlt x4 hj) rfl (fun ls' hl' => k l p e R s m args below meth c D t A sh0 ad0 ad mc ms H locs cells slots ls' C hc hs ⟨x1, x2, x3, x4.set (v := .int v) x6 (am_lvlt x4 hj) hl', x5, am_ok_set x6 trivial⟩)
end AMR
end
section
/-! rules of the abstract machine that read or write cells -/
theorem am_at.kept {D : va_G} {t : Nat → ClassId} {ad : Nat → Nat} {q : Nat × Nat} {Ik : Nat → Int32} {Pk : Nat → Option Nat} {a : Nat} {H H1 : Heap} (h : am_at D t ad q Ik Pk a H) (hq : H1[a]? = H[a]?) : am_at D t ad q Ik Pk a H1 := by
  unfold am_at at h ⊢
  split at h
  · trivial
  · obtain ⟨r, h1, h2⟩ := h
    exact ⟨r, h1, h2.kept hq⟩
  · rw [hq]; exact h
  · rw [hq]; exact h
  · rw [hq]; exact h
  · rw [hq]; exact h
  · exact h.elim
theorem am_at.lt {D : va_G} {t : Nat → ClassId} {ad : Nat → Nat} {q : Nat × Nat} {Ik : Nat → Int32} {Pk : Nat → Option Nat} {a : Nat} {H : Heap} (h : am_at D t ad q Ik Pk a H) (hq : q.1 ≠ 0) : a < H.size := by
  unfold am_at at h
  split at h
  · next e => exact absurd e hq
  · obtain ⟨r, h1, cell, h2, -⟩ := h
    exact (Array.getElem?_eq_some_iff.mp h2).1
  · exact (Array.getElem?_eq_some_iff.mp h).1
  · exact (Array.getElem?_eq_some_iff.mp h).1
  · exact (Array.getElem?_eq_some_iff.mp h).1
  · exact (Array.getElem?_eq_some_iff.mp h).1
  · exact h.elim
theorem am_W.at {D : va_G} {t : Nat → ClassId} {A : Nat → Prop} {ad : Nat → Nat} {sh : ASh} {I : AIn} {P : APt} {H : Heap} (h : am_W D t A ad sh I P H) {k : Nat} {q : Nat × Nat} (e : sh k = q) : am_at D t ad q (I k) (P k) (ad k) H := e ▸ h.2.2.2 k
theorem am_W.setI {D : va_G} {t : Nat → ClassId} {A : Nat → Prop} {ad : Nat → Nat} {sh : ASh} {I : AIn} {P : APt} {H H1 : Heap} (h : am_W D t A ad sh I P H) {q : Nat} {f : Nat → Int32} (hq : (sh q).1 ≠ 0) (hat : am_at D t ad (sh q) f (P q) (ad q) H1) (oq : ∀ a, a ≠ ad q → H1[a]? = H[a]?) : am_W D t A ad sh (va_up I q f) P H1 := by
  refine ⟨h.1, h.2.1, h.2.2.1, fun k => ?_⟩
  by_cases hk : k = q
  · subst hk
    simp only [va_up, if_true]
    exact hat
  · have e : va_up I q f k = I k := by simp [va_up, hk]
    rw [e]
    by_cases hb : (sh k).1 = 0
    · unfold am_at
      rw [hb]
      trivial
    · exact (h.2.2.2 k).kept (oq _ (fun z => hk (h.2.1 k q hb hq z)))
theorem am_W.setP {D : va_G} {t : Nat → ClassId} {A : Nat → Prop} {ad : Nat → Nat} {sh : ASh} {I : AIn} {P : APt} {H H1 : Heap} (h : am_W D t A ad sh I P H) {q : Nat} {f : Nat → Option Nat} (hq : (sh q).1 ≠ 0) (hf : ∀ j z, f j = some z → (sh z).1 ≠ 0) (hat : am_at D t ad (sh q) (I q) f (ad q) H1) (oq : ∀ a, a ≠ ad q → H1[a]? = H[a]?) : am_W D t A ad sh I (va_up P q f) H1 := by
  refine ⟨h.1, h.2.1, fun k j z hk hz => ?_, fun k => ?_⟩
  · by_cases hkq : k = q
    · subst hkq
      simp only [va_up, if_true] at hz
      exact hf j z hz
    · simp only [va_up, hkq, if_false] at hz
      exact h.2.2.1 k j z hk hz
  · by_cases hk : k = q
    · subst hk
      simp only [va_up, if_true]
      exact hat
    · have e : va_up P q f k = P k := by simp [va_up, hk]
      rw [e]
      by_cases hb : (sh k).1 = 0
      · unfold am_at
        rw [hb]
        trivial
      · exact (h.2.2.2 k).kept (oq _ (fun z => hk (h.2.1 k q hb hq z)))
theorem am_rf_up {sh : ASh} {ad : Nat → Nat} {k a : Nat} {q : Option Nat} (hk : (sh k).1 = 0) (hq : ∀ z, q = some z → (sh z).1 ≠ 0) : am_rf (va_up ad k a) q = am_rf ad q := by
  cases q with
  | none => rfl
  | some z =>
    have hz : z ≠ k := fun e => hq z rfl (by rw [e]; exact hk)
    simp [am_rf, va_up, hz]
theorem cv_up {sh : ASh} {ad : Nat → Nat} {k a : Nat} {v : Value} (hk : (sh k).1 = 0) (hv : am_ok sh v) : cv (va_up ad k a) v = cv ad v := by
  cases v with
  | ref z =>
    have hz : z ≠ k := fun e => hv (by rw [e]; exact hk)
    simp [cv, va_up, hz]
  | _ => rfl
theorem am_W.born {D : va_G} {t : Nat → ClassId} {A : Nat → Prop} {ad : Nat → Nat} {sh : ASh} {I : AIn} {P : APt} {H H1 : Heap} (h : am_W D t A ad sh I P H) {k : Nat} {q : Nat × Nat} (hk : (sh k).1 = 0) (hA : A H.size) (hat : am_at D t (va_up ad k H.size) q (fun _ => 0) (fun _ => none) H.size H1) (o1 : ∀ a, a < H.size → H1[a]? = H[a]?) :
    am_W D t A (va_up ad k H.size) (va_up sh k q) (va_up I k (fun _ => 0)) (va_up P k (fun _ => none)) H1 := by
  have lt : ∀ z, (sh z).1 ≠ 0 → ad z < H.size := fun z hz => (h.2.2.2 z).lt hz
  refine ⟨fun z hz => ?_, fun i j hi hj e => ?_, fun z j y hz hy => ?_, fun z => ?_⟩
  · by_cases e : z = k
    · subst e
      simp only [va_up, if_true]
      exact hA
    · simp only [va_up, e, if_false] at hz ⊢
      exact h.1 z hz
  · by_cases ei : i = k
    · by_cases ej : j = k
      · rw [ei, ej]
      · simp only [va_up, ei, ej, if_true, if_false] at hj e
        have := lt j hj
        omega
    · by_cases ej : j = k
      · simp only [va_up, ei, ej, if_true, if_false] at hi e
        have := lt i hi
        omega
      · simp only [va_up, ei, ej, if_false] at hi hj e
        exact h.2.1 i j hi hj e
  · by_cases ez : z = k
    · simp only [va_up, ez, if_true] at hy
      cases hy
    · simp only [va_up, ez, if_false] at hz hy
      have hb := h.2.2.1 z j y hz hy
      have ey : y ≠ k := fun e => hb (by rw [e]; exact hk)
      simp only [va_up, ey, if_false]
      exact hb
  · by_cases ez : z = k
    · subst ez
      simp only [va_up, if_true]
      exact hat
    · have e1 : va_up sh k q z = sh z := by simp [va_up, ez]
      have e2 : va_up I k (fun _ => 0) z = I z := by simp [va_up, ez]
      have e3 : va_up P k (fun _ => none) z = P z := by simp [va_up, ez]
      have e4 : va_up ad k H.size z = ad z := by simp [va_up, ez]
      rw [e1, e2, e3, e4]
      by_cases hb : (sh z).1 = 0
      · unfold am_at
        rw [hb]
        trivial
      · have hr : ∀ j, am_rf (va_up ad k H.size) (P z j) = am_rf ad (P z j) := fun j => am_rf_up hk (fun y hy => h.2.2.1 z j y hb hy)
        have h9 := (h.2.2.2 z).kept (o1 _ (lt z hb))
        unfold am_at at h9 ⊢
        split at h9
        · trivial
        · obtain ⟨r, g1, g2⟩ := h9
          refine ⟨r, g1, g2.to fun j _ => ?_⟩
          simp only [am_ov, hr]
        · exact h9
        · exact h9
        · simp only [hr]; exact h9
        · simp only [hr]; exact h9
        · exact h9
theorem am_E.up {sh0 : ASh} {ad0 : Nat → Nat} {sh : ASh} {ad : Nat → Nat} {k a : Nat} {q : Nat × Nat} (h : am_E sh0 ad0 sh ad) (hk : (sh k).1 = 0) : am_E sh0 ad0 (va_up sh k q) (va_up ad k a) := fun z hz => by
  have h1 := h z hz
  have e : z ≠ k := fun e => h1.1 (by rw [e]; exact hk)
  simp only [va_up, e, if_false]
  exact h1
theorem am_ok_up {sh : ASh} {k : Nat} {q : Nat × Nat} {v : Value} (hk : (sh k).1 = 0) (h : am_ok sh v) : am_ok (va_up sh k q) v := by
  cases v with
  | ref z =>
    have e : z ≠ k := fun e => h (by rw [e]; exact hk)
    simp only [am_ok, va_up, e, if_false]
    exact h
  | _ => exact h
/-- a field of a kind of object: its place in the constants, and what the tables say of it -/
def am_F (own : String) (idx ci f : Nat) (fin : Bool) : Prop := ∃ (C : String) (T : u_T) (N : Nat), am_cl[ci]? = some (C, T, N) ∧ f < N ∧ (∀ w ∈ u_ws C T N, w ∈ am_tb) ∧ Cond.fieldLink own idx (T f).1 (T f).2.1 (T f).2.2.1 ∈ am_tb ∧ (T f).2.2.2 = fin ∧ (∀ k, k < N → parseFieldDescriptor (T k).2.2.1 = some (am_ty ci k)) ∧ (∀ a, a < N → ∀ b, b < N → a ≠ b → (T a).2.1 ≠ (T b).2.1) ∧ (fin = true → (T f).1 = own)
section AMH
variable {mi : MI} {post : APo} {fr lo c0 s0 pc : Nat} {lv : List (Option Value)} {st : List Value} {sh : ASh} {I : AIn} {P : APt}
theorem r_iaload {q n : Nat} {x : Int32} (i : Nat) (d : decode mi.2.1 pc = .ok (.iaload, 1)) (hs : sh q = (2, n)) (hx : x = nI i) (hi : i < n) (hn : n < 2147483648) (k : am_R mi post fr lo c0 s0 (pc + 1) lv (.int (I q i) :: st) sh I P) : am_R mi post fr lo c0 s0 pc lv (.int x :: .ref q :: st) sh I P := by
  intro l p e R s m args below meth c D t A sh0 ad0 ad mc ms H locs cells slots ls C hc0 hs0 X
  obtain ⟨hx0, hb, hml, hr, hown, hts, hlk, hnm, hroom, hN, hA⟩ := id C
  obtain ⟨x1, x2, x3, x4, x5, x6⟩ := X
  subst hx
  have hc : H[ad q]? = some (arrV (t 0) n (fun j => .int (I q j))) := x1.at hs
  exact W.iald (v := .int (I q i)) hx0 hb hc ((hN.1.2 0 _ rfl).1 n _) (fun h => by cases h) (by show ¬ (_ ∨ (arrV _ _ _).slots.size ≤ _); rw [arrV_size]; exact vp_in_nI hi hn) (by rw [nI_clamp (by omega)]; exact arrV_read _ _ hi) rfl rfl d
    (k l p e R s m args below meth c D t A sh0 ad0 ad mc ms H locs cells slots ls C hc0 hs0 ⟨x1, x2, x3, x4, am_okc trivial (am_okt (am_okt x5)), x6⟩)
theorem r_baload {q n : Nat} {x : Int32} (i : Nat) (d : decode mi.2.1 pc = .ok (.baload, 1)) (hs : sh q = (3, n)) (hx : x = nI i) (hi : i < n) (hn : n < 2147483648) (k : am_R mi post fr lo c0 s0 (pc + 1) lv (.int (I q i) :: st) sh I P) : am_R mi post fr lo c0 s0 pc lv (.int x :: .ref q :: st) sh I P := by
  intro l p e R s m args below meth c D t A sh0 ad0 ad mc ms H locs cells slots ls C hc0 hs0 X
  obtain ⟨hx0, hb, hml, hr, hown, hts, hlk, hnm, hroom, hN, hA⟩ := id C
  obtain ⟨x1, x2, x3, x4, x5, x6⟩ := X
  subst hx
  have hc : H[ad q]? = some (arrV (t 1) n (fun j => .int (I q j))) := x1.at hs
  exact W.zald (v := .int (I q i)) hx0 hb hc ((hN.1.2 1 _ rfl).1 n _) (fun h => by cases h) (by show ¬ (_ ∨ (arrV _ _ _).slots.size ≤ _); rw [arrV_size]; exact vp_in_nI hi hn) (by rw [nI_clamp (by omega)]; exact arrV_read _ _ hi) rfl rfl d
    (k l p e R s m args below meth c D t A sh0 ad0 ad mc ms H locs cells slots ls C hc0 hs0 ⟨x1, x2, x3, x4, am_okc trivial (am_okt (am_okt x5)), x6⟩)
theorem am_arrset (c : ClassId) (n i : Nat) (f : Nat → Int32) (y : Int32) : (arrV c n (fun j => .int (f j))).setSlot i (.int y) = arrV c n (fun j => .int (upd f i y j)) := by
  rw [arrV_store]
  congr 1
  funext j
  by_cases hj : j = i <;> simp [updV, upd, hj]
theorem r_iastore {q n : Nat} {x y : Int32} (i : Nat) (d : decode mi.2.1 pc = .ok (.iastore, 1)) (hs : sh q = (2, n)) (hx : x = nI i) (hi : i < n) (hn : n < 2147483648) (k : am_R mi post fr lo c0 s0 (pc + 1) lv st sh (va_up I q (upd (I q) i y)) P) : am_R mi post fr lo c0 s0 pc lv (.int y :: .int x :: .ref q :: st) sh I P := by
  intro l p e R s m args below meth c D t A sh0 ad0 ad mc ms H locs cells slots ls C hc0 hs0 X
  obtain ⟨hx0, hb, hml, hr, hown, hts, hlk, hnm, hroom, hN, hA⟩ := id C
  obtain ⟨x1, x2, x3, x4, x5, x6⟩ := X
  subst hx
  have hc : H[ad q]? = some (arrV (t 0) n (fun j => .int (I q j))) := x1.at hs
  refine W.iast (x := y) hx0 hb hc ((hN.1.2 0 _ rfl).1 n _) (fun h => by cases h) (by show ¬ (_ ∨ (arrV _ _ _).slots.size ≤ _); rw [arrV_size]; exact vp_in_nI hi hn) rfl rfl d (fun H1 e1 z1 o1 => ?_)
  rw [nI_clamp (by omega), am_arrset] at e1
  refine k l p e R s m args below meth c D t A sh0 ad0 ad mc ms H1 _ cells slots ls C hc0 hs0 ⟨x1.setI (by rw [hs]; exact Nat.succ_ne_zero _) (by rw [hs]; exact e1) o1, x2, x3.put z1 o1 (x1.1 q (by rw [hs]; exact Nat.succ_ne_zero _)), x4, am_okt (am_okt (am_okt x5)), x6⟩
theorem r_bastore {q n : Nat} {x y : Int32} (i : Nat) (d : decode mi.2.1 pc = .ok (.bastore, 1)) (hs : sh q = (3, n)) (hx : x = nI i) (hi : i < n) (hn : n < 2147483648) (hy : narrow .boolean (.int y) = .int y) (k : am_R mi post fr lo c0 s0 (pc + 1) lv st sh (va_up I q (upd (I q) i y)) P) : am_R mi post fr lo c0 s0 pc lv (.int y :: .int x :: .ref q :: st) sh I P := by
  intro l p e R s m args below meth c D t A sh0 ad0 ad mc ms H locs cells slots ls C hc0 hs0 X
  obtain ⟨hx0, hb, hml, hr, hown, hts, hlk, hnm, hroom, hN, hA⟩ := id C
  obtain ⟨x1, x2, x3, x4, x5, x6⟩ := X
  subst hx
  have hc : H[ad q]? = some (arrV (t 1) n (fun j => .int (I q j))) := x1.at hs
  refine W.zast (x := y) hx0 hb hc ((hN.1.2 1 _ rfl).1 n _) (fun h => by cases h) (by show ¬ (_ ∨ (arrV _ _ _).slots.size ≤ _); rw [arrV_size]; exact vp_in_nI hi hn) rfl rfl d (fun H1 e1 z1 o1 => ?_)
  rw [nI_clamp (by omega), hy, am_arrset] at e1
  refine k l p e R s m args below meth c D t A sh0 ad0 ad mc ms H1 _ cells slots ls C hc0 hs0 ⟨x1.setI (by rw [hs]; exact Nat.succ_ne_zero _) (by rw [hs]; exact e1) o1, x2, x3.put z1 o1 (x1.1 q (by rw [hs]; exact Nat.succ_ne_zero _)), x4, am_okt (am_okt (am_okt x5)), x6⟩
theorem am_obj {D : va_G} {t : Nat → ClassId} {A : Nat → Prop} {ad : Nat → Nat} {sh : ASh} {I : AIn} {P : APt} {H : Heap} {q ci : Nat} {C : String} {T : u_T} {N : Nat} (h : am_W D t A ad sh I P H) (hs : sh q = (1, ci)) (hc : am_cl[ci]? = some (C, T, N)) : va_P D am_cl [(ad q, .inr (ci, (List.range N).map (am_ov ci ad (I q) (P q))))] H := by
  intro k x hk
  have hz : k < 1 := (List.getElem?_eq_some_iff.mp hk).1
  rw [show k = 0 by omega] at hk
  cases hk
  obtain ⟨r, h1, h2⟩ := h.at hs
  have hr : r = (C, T, N) := Option.some.inj (h1.symm.trans hc)
  subst hr
  refine ⟨_, hc, h2.to fun j hj => ?_⟩
  have hj' : j < N := hj
  simp [vp_V, hj']
theorem r_getI {q ci f idx : Nat} {fin : Bool} (d : decode mi.2.1 pc = .ok (.getfield idx, 3)) (hF : am_F mi.1.cls idx ci f fin) (hs : sh q = (1, ci)) (ht : am_isR (am_ty ci f) = false) (k : am_R mi post fr lo c0 s0 (pc + 3) lv (.int (I q f) :: st) sh I P) : am_R mi post fr lo c0 s0 pc lv (.ref q :: st) sh I P := by
  intro l p e R s m args below meth c D t A sh0 ad0 ad mc ms H locs cells slots ls C hc0 hs0 X
  obtain ⟨hx0, hb, hml, hr, hown, hts, hlk, hnm, hroom, hN, hA⟩ := id C
  obtain ⟨x1, x2, x3, x4, x5, x6⟩ := X
  obtain ⟨C1, T1, N1, g1, g2, g3, g4, -⟩ := hF
  exact va_get (v := .int (I q f)) hx0 hb hts g3 hown hN.1 (am_obj x1 hs g1) 0 rfl g1 f g2 (hts _ g4) (fun _ h9 => h9) (by simp [g2, am_ov, ht]) d
    (k l p e R s m args below meth c D t A sh0 ad0 ad mc ms H locs cells slots ls C hc0 hs0 ⟨x1, x2, x3, x4, am_okc trivial (am_okt x5), x6⟩)
theorem r_getP {q ci f idx z : Nat} {fin : Bool} (d : decode mi.2.1 pc = .ok (.getfield idx, 3)) (hF : am_F mi.1.cls idx ci f fin) (hs : sh q = (1, ci)) (ht : am_isR (am_ty ci f) = true) (hp : P q f = some z) (k : am_R mi post fr lo c0 s0 (pc + 3) lv (.ref z :: st) sh I P) : am_R mi post fr lo c0 s0 pc lv (.ref q :: st) sh I P := by
  intro l p e R s m args below meth c D t A sh0 ad0 ad mc ms H locs cells slots ls C hc0 hs0 X
  obtain ⟨hx0, hb, hml, hr, hown, hts, hlk, hnm, hroom, hN, hA⟩ := id C
  obtain ⟨x1, x2, x3, x4, x5, x6⟩ := X
  obtain ⟨C1, T1, N1, g1, g2, g3, g4, -⟩ := hF
  exact va_get (v := .ref (ad z)) hx0 hb hts g3 hown hN.1 (am_obj x1 hs g1) 0 rfl g1 f g2 (hts _ g4) (fun _ h9 => h9) (by simp [g2, am_ov, ht, hp, am_rf]) d
    (k l p e R s m args below meth c D t A sh0 ad0 ad mc ms H locs cells slots ls C hc0 hs0 ⟨x1, x2, x3, x4, am_okc (x1.2.2.1 q f z (by rw [hs]; exact Nat.one_ne_zero) hp) (am_okt x5), x6⟩)
theorem am_ov_setI {ci f : Nat} {ad : Nat → Nat} {Ik : Nat → Int32} {Pk : Nat → Option Nat} {y : Int32} (ht : am_isR (am_ty ci f) = false) (j : Nat) : updV (am_ov ci ad Ik Pk) f (.int y) j = am_ov ci ad (upd Ik f y) Pk j := by
  by_cases hj : j = f
  · subst hj
    simp [updV, am_ov, upd, ht]
  · simp [updV, am_ov, upd, hj]
theorem am_ov_setP {ci f : Nat} {ad : Nat → Nat} {Ik : Nat → Int32} {Pk : Nat → Option Nat} {y : Option Nat} (ht : am_isR (am_ty ci f) = true) (j : Nat) : updV (am_ov ci ad Ik Pk) f (am_rf ad y) j = am_ov ci ad Ik (va_up Pk f y) j := by
  by_cases hj : j = f
  · subst hj
    simp [updV, am_ov, va_up, ht]
  · simp [updV, am_ov, va_up, hj]
theorem r_putI {q ci f idx : Nat} {y : Int32} (d : decode mi.2.1 pc = .ok (.putfield idx, 3)) (hF : am_F mi.1.cls idx ci f false) (hs : sh q = (1, ci)) (ht : am_isR (am_ty ci f) = false) (hn : narrow (am_ty ci f) (.int y) = .int y) (hfit : fits (am_ty ci f) (.int y) = true) (k : am_R mi post fr lo c0 s0 (pc + 3) lv st sh (va_up I q (upd (I q) f y)) P) : am_R mi post fr lo c0 s0 pc lv (.int y :: .ref q :: st) sh I P := by
  intro l p e R s m args below meth c D t A sh0 ad0 ad mc ms H locs cells slots ls C hc0 hs0 X
  obtain ⟨hx0, hb, hml, hr, hown, hts, hlk, hnm, hroom, hN, hA⟩ := id C
  obtain ⟨x1, x2, x3, x4, x5, x6⟩ := X
  obtain ⟨C1, T1, N1, g1, g2, g3, g4, g5, g6, g7, -⟩ := hF
  have hap := va_apart (own := mi.1.cls) hts g3 (am_ty ci) g6 g7 hN.1 g1
  obtain ⟨r, h1, cell, q1, q2, q3, q4⟩ := x1.at hs
  have hr : r = (C1, T1, N1) := Option.some.inj (h1.symm.trans g1)
  subst hr
  obtain ⟨hS, hfc, kC, hkC, hkind⟩ := hN.1.1 ci _ g1
  obtain ⟨cf, kf, fi, fd, hi, hsl⟩ := hS f g2
  have hlay := hts _ (g3 _ (u_in_lay g2))
  unfold u_lay at hlay
  rw [if_neg (by rw [g5]; decide)] at hlay
  have hst := (u_facts hfc hkC (u_lays hts g3 g2) hi).1
  have h6 := u_store hfc hkC hkind hlay hi (g6 f g2) hn hfit
  refine W.putK hx0 hb (f := fd) ⟨hown, hts _ g4, ⟨_, _, _, hi⟩, hst⟩ (by rw [q2]; exact h6) q1 q3 (by rw [hsl]; exact k2_hasslot (q4 f g2)) rfl rfl d fun H1 e1 e2 e3 => ?_
  rw [hsl] at e1 ⊢
  refine k l p e R s m args below meth c D t A sh0 ad0 ad mc ms H1 _ cells slots ls C hc0 hs0 ⟨x1.setI (by rw [hs]; exact Nat.one_ne_zero) (by rw [hs]; exact ⟨_, g1, t_OB.to (V := updV (am_ov ci ad (I q) (P q)) f (.int y)) ⟨_, e1, q2, q3, t_set q4 hap g2 (.int y)⟩ (fun j _ => am_ov_setI ht j)⟩) e3, x2, x3.put e2 e3 (x1.1 q (by rw [hs]; exact Nat.one_ne_zero)), x4, am_okt (am_okt x5), x6⟩
theorem r_putP {q ci f idx z : Nat} (d : decode mi.2.1 pc = .ok (.putfield idx, 3)) (hF : am_F mi.1.cls idx ci f true) (hs : sh q = (1, ci)) (ht : am_isR (am_ty ci f) = true) (hin : mi.1.name = "<init>") (hn : ∀ a, narrow (am_ty ci f) (.ref a) = .ref a) (hfit : ∀ a, fits (am_ty ci f) (.ref a) = true) (k : am_R mi post fr lo c0 s0 (pc + 3) lv st sh I (va_up P q (va_up (P q) f (some z)))) : am_R mi post fr lo c0 s0 pc lv (.ref z :: .ref q :: st) sh I P := by
  intro l p e R s m args below meth c D t A sh0 ad0 ad mc ms H locs cells slots ls C hc0 hs0 X
  obtain ⟨hx0, hb, hml, hr, hown, hts, hlk, hnm, hroom, hN, hA⟩ := id C
  obtain ⟨x1, x2, x3, x4, x5, x6⟩ := X
  obtain ⟨C1, T1, N1, g1, g2, g3, g4, g5, g6, g7, g8⟩ := hF
  have hap := va_apart (own := mi.1.cls) hts g3 (am_ty ci) g6 g7 hN.1 g1
  obtain ⟨r, h1, cell, q1, q2, q3, q4⟩ := x1.at hs
  have hr : r = (C1, T1, N1) := Option.some.inj (h1.symm.trans g1)
  subst hr
  obtain ⟨hS, hfc, kC, hkC, hkind⟩ := hN.1.1 ci _ g1
  obtain ⟨cf, kf, fi, fd, hi, hsl⟩ := hS f g2
  have hlay := hts _ (g3 _ (u_in_lay g2))
  unfold u_lay at hlay
  rw [if_pos g5] at hlay
  have hst := (u_facts hfc hkC (u_lays hts g3 g2) hi).1
  have hcf : m.cls = cf := by
    obtain ⟨_, _, c', _, _, _, -, -, hf', -, -, -, hown2, -⟩ := Cond.laysFinal_spec hlay
    have e1 : c' = cf := by have := hi.symm.trans hf'; simp at this; exact this.1.symm
    rw [g8 rfl] at hown2
    rw [← e1]; exact Option.some.inj (hown.symm.trans hown2)
  have h6 := u_fits hfc hkC hkind (Or.inr hlay) hi (g6 f g2) (hn (ad z)) (hfit (ad z))
  refine W.putFinK hx0 hb hown (hts _ g4) hi hst hcf (hnm.trans hin) (by rw [q2]; exact h6) q1 q3 (by rw [hsl]; exact k2_hasslot (q4 f g2)) rfl rfl d fun H1 e1 e2 e3 => ?_
  rw [hsl] at e1 ⊢
  have hz : (sh z).1 ≠ 0 := am_okh x5
  refine k l p e R s m args below meth c D t A sh0 ad0 ad mc ms H1 _ cells slots ls C hc0 hs0 ⟨x1.setP (by rw [hs]; exact Nat.one_ne_zero) (fun j y hy => ?_) (by rw [hs]; exact ⟨_, g1, t_OB.to (V := updV (am_ov ci ad (I q) (P q)) f (am_rf ad (some z))) ⟨_, e1, q2, q3, t_set q4 hap g2 (.ref (ad z))⟩ (fun j _ => am_ov_setP ht j)⟩) e3, x2, x3.put e2 e3 (x1.1 q (by rw [hs]; exact Nat.one_ne_zero)), x4, am_okt (am_okt x5), x6⟩
  by_cases hj : j = f
  · simp only [va_up, hj, if_true] at hy
    cases hy
    exact hz
  · simp only [va_up, hj, if_false] at hy
    exact x1.2.2.1 q j y (by rw [hs]; exact Nat.one_ne_zero) hy
end AMH
end
section
/-! rules that make cells, and arrays of references -/
section AMB
variable {mi : MI} {post : APo} {fr lo c0 s0 pc : Nat} {lv : List (Option Value)} {st : List Value} {sh : ASh} {I : AIn} {P : APt}
theorem cv_mapup {ad : Nat → Nat} {k a : Nat} {st : List Value} (hk : (sh k).1 = 0) (h : ∀ v ∈ st, am_ok sh v) : st.map (cv (va_up ad k a)) = st.map (cv ad) := List.map_congr_left (fun v hv => cv_up hk (h v hv))
theorem am_L.up {ad : Nat → Nat} {ls : Array Slot} {n k a : Nat} (h : am_L ad ls n lv) (hok : ∀ (i : Nat) (v : Value), lv[i]? = some (some v) → am_ok sh v) (hk : (sh k).1 = 0) : am_L (va_up ad k a) ls n lv := ⟨h.1, h.2.1, h.2.2.1, fun i v hv => by rw [cv_up hk (hok i v hv)]; exact h.2.2.2 i v hv⟩
theorem am_X.born {D : va_G} {t : Nat → ClassId} {A : Nat → Prop} {sh0 : ASh} {ad0 ad : Nat → Nat} {H0 H H1 : Heap} {locs : List Loc} {ls : Array Slot} {n k : Nat} {q : Nat × Nat} {st0 : List Value} (X : am_X D t A sh0 ad0 ad H0 H locs ls n lv st0 sh I P) (hst : ∀ v ∈ st, am_ok sh v) (hk : (sh k).1 = 0) (hq : q.1 ≠ 0) (hA : ∀ q, H0.size ≤ q → A q) (hat : am_at D t (va_up ad k H.size) q (fun _ => 0) (fun _ => none) H.size H1) (z1 : H1.size = H.size + 1) (o1 : ∀ a, a < H.size → H1[a]? = H[a]?) :
    am_X D t A sh0 ad0 (va_up ad k H.size) H0 H1 locs ls n lv (.ref k :: st) (va_up sh k q) (va_up I k (fun _ => 0)) (va_up P k (fun _ => none)) := by
  obtain ⟨x1, x2, x3, x4, x5, x6⟩ := X
  refine ⟨x1.born hk (hA _ x3.1) hat o1, x2.up hk, ⟨Nat.le_trans x3.1 (by omega), fun a h1 h2 => (o1 a (Nat.lt_of_lt_of_le h1 x3.1)).trans (x3.2.1 a h1 h2), x3.2.2⟩, x4.up x6 hk, am_okc ?_ (fun v hv => am_ok_up hk (hst v hv)), fun i v hv => am_ok_up hk (x6 i v hv)⟩
  simp only [am_ok, va_up, if_true]
  exact hq
theorem r_newarrI {x : Int32} (k n : Nat) (d : decode mi.2.1 pc = .ok (.newarray .int, 2)) (hw : Cond.arrayClass .int ∈ am_tb) (hk : (sh k).1 = 0) (hx : x = nI n) (hn : n ≤ 100000) (hc1 : 1 ≤ c0) (hs1 : n ≤ s0) (kk : am_R mi post fr lo (c0 - 1) (s0 - n) (pc + 2) lv (.ref k :: st) (va_up sh k (2, n)) (va_up I k (fun _ => 0)) (va_up P k (fun _ => none))) : am_R mi post fr lo c0 s0 pc lv (.int x :: st) sh I P := by
  intro l p e R s m args below meth c D t A sh0 ad0 ad mc ms H locs cells slots ls C hc0 hs0 X
  obtain ⟨hx0, hb, hml, hr, hown, hts, hlk, hnm, hroom, hN, hA⟩ := id C
  subst hx
  have hst := am_okt X.2.2.2.2.1
  refine va_newaK hx0 hb (atype := .int) (hts _ hw) rfl d rfl (nI_pos (by omega)) (nI_clamp (by omega)) (Nat.le_trans (Nat.mul_le_mul_right _ hn) (by decide)) (by omega) (by omega) rfl fun H1 cA e1 z1 o1 hAr hNm => ?_
  have hcA : cA = t 0 := Option.some.inj (hNm.symm.trans (hN.1.2 0 _ rfl).2)
  subst hcA
  have X2 := X.born (st := st) (H1 := H1) (k := k) (q := (2, n)) hst hk (Nat.succ_ne_zero _) hA e1 z1 o1
  have h9 := kk l p e R s m args below meth c D t A sh0 ad0 _ mc ms H1 locs (cells + 1) (slots + n) ls C (by omega) (by omega) X2
  rw [List.map_cons, cv_mapup hk hst, show cv (va_up ad k H.size) (.ref k) = .ref H.size by simp [cv, va_up]] at h9
  exact h9
theorem r_newarrZ {x : Int32} (k n : Nat) (d : decode mi.2.1 pc = .ok (.newarray .boolean, 2)) (hw : Cond.arrayClass .boolean ∈ am_tb) (hk : (sh k).1 = 0) (hx : x = nI n) (hn : n ≤ 100000) (hc1 : 1 ≤ c0) (hs1 : n ≤ s0) (kk : am_R mi post fr lo (c0 - 1) (s0 - n) (pc + 2) lv (.ref k :: st) (va_up sh k (3, n)) (va_up I k (fun _ => 0)) (va_up P k (fun _ => none))) : am_R mi post fr lo c0 s0 pc lv (.int x :: st) sh I P := by
  intro l p e R s m args below meth c D t A sh0 ad0 ad mc ms H locs cells slots ls C hc0 hs0 X
  obtain ⟨hx0, hb, hml, hr, hown, hts, hlk, hnm, hroom, hN, hA⟩ := id C
  subst hx
  have hst := am_okt X.2.2.2.2.1
  refine va_newaK hx0 hb (atype := .boolean) (hts _ hw) rfl d rfl (nI_pos (by omega)) (nI_clamp (by omega)) (Nat.le_trans (Nat.mul_le_mul_right _ hn) (by decide)) (by omega) (by omega) rfl fun H1 cA e1 z1 o1 hAr hNm => ?_
  have hcA : cA = t 1 := Option.some.inj (hNm.symm.trans (hN.1.2 1 _ rfl).2)
  subst hcA
  have X2 := X.born (st := st) (H1 := H1) (k := k) (q := (3, n)) hst hk (Nat.succ_ne_zero _) hA e1 z1 o1
  have h9 := kk l p e R s m args below meth c D t A sh0 ad0 _ mc ms H1 locs (cells + 1) (slots + n) ls C (by omega) (by omega) X2
  rw [List.map_cons, cv_mapup hk hst, show cv (va_up ad k H.size) (.ref k) = .ref H.size by simp [cv, va_up]] at h9
  exact h9
theorem r_anewP {x : Int32} {idx : Nat} (k n : Nat) (d : decode mi.2.1 pc = .ok (.anewarray idx, 3)) (hw : Cond.classLink mi.1.cls idx RX3 ∈ am_tb) (hk : (sh k).1 = 0) (hx : x = nI n) (hn : n ≤ 100000) (hc1 : 1 ≤ c0) (hs1 : n ≤ s0) (kk : am_R mi post fr lo (c0 - 1) (s0 - n) (pc + 3) lv (.ref k :: st) (va_up sh k (4, n)) (va_up I k (fun _ => 0)) (va_up P k (fun _ => none))) : am_R mi post fr lo c0 s0 pc lv (.int x :: st) sh I P := by
  intro l p e R s m args below meth c D t A sh0 ad0 ad mc ms H locs cells slots ls C hc0 hs0 X
  obtain ⟨hx0, hb, hml, hr, hown, hts, hlk, hnm, hroom, hN, hA⟩ := id C
  subst hx
  have hst := am_okt X.2.2.2.2.1
  have hcl : (nI n).toNatClampNeg = n := nI_clamp (by omega)
  refine W.anew hx0 hb hown (hts _ hw) (va_AO.use hN.2.1.1) rfl d rfl (nI_pos (by omega)) (by rw [hcl]; omega) (by omega) (by rw [hcl]; omega) fun cA kA comp f1 f2 f3 f4 => ?_
  obtain ⟨kA2, comp2, g1, g2, g3, g4⟩ := (hN.1.2 2 _ rfl).2
  have hcA : cA = t 2 := Option.some.inj (f1.symm.trans g4)
  subst hcA
  rw [hcl]
  generalize hH1 : H.push ({ cls := t 2, slots := Array.replicate n .null, vm := .none } : Cell) = H1
  have z1 : H1.size = H.size + 1 := by rw [← hH1, Array.size_push]
  have e1 : H1[H.size]? = some (arrV (t 2) n (fun _ => .null)) := by rw [← hH1, Array.getElem?_push_size, ← arrV_new]
  have o1 : ∀ q : Nat, q < H.size → H1[q]? = H[q]? := fun q hq => by rw [← hH1, Array.getElem?_push, if_neg (Nat.ne_of_lt hq)]
  have X2 := X.born (st := st) (H1 := H1) (k := k) (q := (4, n)) hst hk (Nat.succ_ne_zero _) hA e1 z1 o1
  have h9 := kk l p e R s m args below meth c D t A sh0 ad0 _ mc ms H1 locs (cells + 1) (slots + n) ls C (by omega) (by omega) X2
  rw [List.map_cons, cv_mapup hk hst, show cv (va_up ad k H.size) (.ref k) = .ref H.size by simp [cv, va_up]] at h9
  exact h9
theorem r_aaloadP {q n z : Nat} {x : Int32} (i : Nat) (d : decode mi.2.1 pc = .ok (.aaload, 1)) (hs : sh q = (4, n)) (hx : x = nI i) (hi : i < n) (hn : n < 2147483648) (hp : P q i = some z) (k : am_R mi post fr lo c0 s0 (pc + 1) lv (.ref z :: st) sh I P) : am_R mi post fr lo c0 s0 pc lv (.int x :: .ref q :: st) sh I P := by
  intro l p e R s m args below meth c D t A sh0 ad0 ad mc ms H locs cells slots ls C hc0 hs0 X
  obtain ⟨hx0, hb, hml, hr, hown, hts, hlk, hnm, hroom, hN, hA⟩ := id C
  obtain ⟨x1, x2, x3, x4, x5, x6⟩ := X
  subst hx
  have hc : H[ad q]? = some (arrV (t 2) n (fun j => am_rf ad (P q j))) := x1.at hs
  exact W.aald (v := .ref (ad z)) (ty := .object RX3) hx0 hb hc ((hN.1.2 2 _ rfl).1 n _) rfl (fun h => by cases h) (by show ¬ (_ ∨ (arrV _ _ _).slots.size ≤ _); rw [arrV_size]; exact vp_in_nI hi hn) (by rw [nI_clamp (by omega), arrV_read _ _ hi, hp]; rfl) rfl rfl d
    (k l p e R s m args below meth c D t A sh0 ad0 ad mc ms H locs cells slots ls C hc0 hs0 ⟨x1, x2, x3, x4, am_okc (x1.2.2.1 q i z (by rw [hs]; exact Nat.succ_ne_zero _) hp) (am_okt (am_okt x5)), x6⟩)
theorem r_aaloadPN {q n : Nat} {x : Int32} (i : Nat) (d : decode mi.2.1 pc = .ok (.aaload, 1)) (hs : sh q = (4, n)) (hx : x = nI i) (hi : i < n) (hn : n < 2147483648) (hp : P q i = none) (k : am_R mi post fr lo c0 s0 (pc + 1) lv (.null :: st) sh I P) : am_R mi post fr lo c0 s0 pc lv (.int x :: .ref q :: st) sh I P := by
  intro l p e R s m args below meth c D t A sh0 ad0 ad mc ms H locs cells slots ls C hc0 hs0 X
  obtain ⟨hx0, hb, hml, hr, hown, hts, hlk, hnm, hroom, hN, hA⟩ := id C
  obtain ⟨x1, x2, x3, x4, x5, x6⟩ := X
  subst hx
  have hc : H[ad q]? = some (arrV (t 2) n (fun j => am_rf ad (P q j))) := x1.at hs
  exact W.aald (v := .null) (ty := .object RX3) hx0 hb hc ((hN.1.2 2 _ rfl).1 n _) rfl (fun h => by cases h) (by show ¬ (_ ∨ (arrV _ _ _).slots.size ≤ _); rw [arrV_size]; exact vp_in_nI hi hn) (by rw [nI_clamp (by omega), arrV_read _ _ hi, hp]; rfl) rfl rfl d
    (k l p e R s m args below meth c D t A sh0 ad0 ad mc ms H locs cells slots ls C hc0 hs0 ⟨x1, x2, x3, x4, am_okc trivial (am_okt (am_okt x5)), x6⟩)
theorem r_aastoreP {q n z : Nat} {x : Int32} (i : Nat) (d : decode mi.2.1 pc = .ok (.aastore, 1)) (hs : sh q = (4, n)) (hz : sh z = (1, 2)) (hx : x = nI i) (hi : i < n) (hn : n < 2147483648) (k : am_R mi post fr lo c0 s0 (pc + 1) lv st sh I (va_up P q (va_up (P q) i (some z)))) : am_R mi post fr lo c0 s0 pc lv (.ref z :: .int x :: .ref q :: st) sh I P := by
  intro l p e R s m args below meth c D t A sh0 ad0 ad mc ms H locs cells slots ls C hc0 hs0 X
  obtain ⟨hx0, hb, hml, hr, hown, hts, hlk, hnm, hroom, hN, hA⟩ := id C
  obtain ⟨x1, x2, x3, x4, x5, x6⟩ := X
  subst hx
  have hc : H[ad q]? = some (arrV (t 2) n (fun j => am_rf ad (P q j))) := x1.at hs
  obtain ⟨r', hr', cellV, g1, g2, g3, -⟩ := x1.at hz
  have hcls := (hN.1.1 2 _ rfl).2
  obtain ⟨kA, comp, k1, k2, k3, -⟩ := (hN.1.2 2 _ rfl).2
  have hcomp : comp = D.1 2 := Option.some.inj (k3.symm.trans hcls.1)
  subst hcomp
  obtain ⟨kC, hkC, -⟩ := hcls.2
  have hcl : (nI i).toNatClampNeg = i := nI_clamp (by omega)
  have hzb : (sh z).1 ≠ 0 := by rw [hz]; exact Nat.one_ne_zero
  refine W.aast hx0 hb hc (fun q h => by cases h) (fun h => by cases h) k1 k2 rfl hkC ⟨nI_pos (by omega), by show _ < (arrV _ _ _).slots.size; rw [arrV_size, hcl]; exact hi⟩ g1 (fun q h => by rw [g3] at h; cases h) (by rw [g2]; exact hkC) (by rw [g2]; exact va_assign hcls) rfl rfl d fun H1 e1 z1 oq => ?_
  have e2 : H1[ad q]? = some (arrV (t 2) n (fun j => am_rf ad (va_up (P q) i (some z) j))) := by
    rw [e1, hcl, arrV_store]
    congr 2
    funext j
    by_cases hj : j = i <;> simp [updV, va_up, hj, am_rf]
  refine k l p e R s m args below meth c D t A sh0 ad0 ad mc ms H1 _ cells slots ls C hc0 hs0 ⟨x1.setP (by rw [hs]; exact Nat.succ_ne_zero _) (fun j y hy => ?_) (by rw [hs]; exact e2) oq, x2, x3.put z1 oq (x1.1 q (by rw [hs]; exact Nat.succ_ne_zero _)), x4, am_okt (am_okt (am_okt x5)), x6⟩
  by_cases hj : j = i
  · simp only [va_up, hj, if_true] at hy
    cases hy
    exact hzb
  · simp only [va_up, hj, if_false] at hy
    exact x1.2.2.1 q j y (by rw [hs]; exact Nat.succ_ne_zero _) hy
theorem r_anewS {x : Int32} {idx : Nat} (k n : Nat) (d : decode mi.2.1 pc = .ok (.anewarray idx, 3)) (hw : Cond.classLink mi.1.cls idx RX7 ∈ am_tb) (hk : (sh k).1 = 0) (hx : x = nI n) (hn : n ≤ 100000) (hc1 : 1 ≤ c0) (hs1 : n ≤ s0) (kk : am_R mi post fr lo (c0 - 1) (s0 - n) (pc + 3) lv (.ref k :: st) (va_up sh k (5, n)) (va_up I k (fun _ => 0)) (va_up P k (fun _ => none))) : am_R mi post fr lo c0 s0 pc lv (.int x :: st) sh I P := by
  intro l p e R s m args below meth c D t A sh0 ad0 ad mc ms H locs cells slots ls C hc0 hs0 X
  obtain ⟨hx0, hb, hml, hr, hown, hts, hlk, hnm, hroom, hN, hA⟩ := id C
  subst hx
  have hst := am_okt X.2.2.2.2.1
  have hcl : (nI n).toNatClampNeg = n := nI_clamp (by omega)
  refine W.anew hx0 hb hown (hts _ hw) (va_AO.use hN.2.1.2) rfl d rfl (nI_pos (by omega)) (by rw [hcl]; omega) (by omega) (by rw [hcl]; omega) fun cA kA comp f1 f2 f3 f4 => ?_
  obtain ⟨kA2, comp2, g1, g2, g3, g4⟩ := (hN.1.2 3 _ rfl).2
  have hcA : cA = t 3 := Option.some.inj (f1.symm.trans g4)
  subst hcA
  rw [hcl]
  generalize hH1 : H.push ({ cls := t 3, slots := Array.replicate n .null, vm := .none } : Cell) = H1
  have z1 : H1.size = H.size + 1 := by rw [← hH1, Array.size_push]
  have e1 : H1[H.size]? = some (arrV (t 3) n (fun _ => .null)) := by rw [← hH1, Array.getElem?_push_size, ← arrV_new]
  have o1 : ∀ q : Nat, q < H.size → H1[q]? = H[q]? := fun q hq => by rw [← hH1, Array.getElem?_push, if_neg (Nat.ne_of_lt hq)]
  have X2 := X.born (st := st) (H1 := H1) (k := k) (q := (5, n)) hst hk (Nat.succ_ne_zero _) hA e1 z1 o1
  have h9 := kk l p e R s m args below meth c D t A sh0 ad0 _ mc ms H1 locs (cells + 1) (slots + n) ls C (by omega) (by omega) X2
  rw [List.map_cons, cv_mapup hk hst, show cv (va_up ad k H.size) (.ref k) = .ref H.size by simp [cv, va_up]] at h9
  exact h9
theorem r_aaloadS {q n z : Nat} {x : Int32} (i : Nat) (d : decode mi.2.1 pc = .ok (.aaload, 1)) (hs : sh q = (5, n)) (hx : x = nI i) (hi : i < n) (hn : n < 2147483648) (hp : P q i = some z) (k : am_R mi post fr lo c0 s0 (pc + 1) lv (.ref z :: st) sh I P) : am_R mi post fr lo c0 s0 pc lv (.int x :: .ref q :: st) sh I P := by
  intro l p e R s m args below meth c D t A sh0 ad0 ad mc ms H locs cells slots ls C hc0 hs0 X
  obtain ⟨hx0, hb, hml, hr, hown, hts, hlk, hnm, hroom, hN, hA⟩ := id C
  obtain ⟨x1, x2, x3, x4, x5, x6⟩ := X
  subst hx
  have hc : H[ad q]? = some (arrV (t 3) n (fun j => am_rf ad (P q j))) := x1.at hs
  exact W.aald (v := .ref (ad z)) (ty := .object RX7) hx0 hb hc ((hN.1.2 3 _ rfl).1 n _) rfl (fun h => by cases h) (by show ¬ (_ ∨ (arrV _ _ _).slots.size ≤ _); rw [arrV_size]; exact vp_in_nI hi hn) (by rw [nI_clamp (by omega), arrV_read _ _ hi, hp]; rfl) rfl rfl d
    (k l p e R s m args below meth c D t A sh0 ad0 ad mc ms H locs cells slots ls C hc0 hs0 ⟨x1, x2, x3, x4, am_okc (x1.2.2.1 q i z (by rw [hs]; exact Nat.succ_ne_zero _) hp) (am_okt (am_okt x5)), x6⟩)
theorem r_aaloadSN {q n : Nat} {x : Int32} (i : Nat) (d : decode mi.2.1 pc = .ok (.aaload, 1)) (hs : sh q = (5, n)) (hx : x = nI i) (hi : i < n) (hn : n < 2147483648) (hp : P q i = none) (k : am_R mi post fr lo c0 s0 (pc + 1) lv (.null :: st) sh I P) : am_R mi post fr lo c0 s0 pc lv (.int x :: .ref q :: st) sh I P := by
  intro l p e R s m args below meth c D t A sh0 ad0 ad mc ms H locs cells slots ls C hc0 hs0 X
  obtain ⟨hx0, hb, hml, hr, hown, hts, hlk, hnm, hroom, hN, hA⟩ := id C
  obtain ⟨x1, x2, x3, x4, x5, x6⟩ := X
  subst hx
  have hc : H[ad q]? = some (arrV (t 3) n (fun j => am_rf ad (P q j))) := x1.at hs
  exact W.aald (v := .null) (ty := .object RX7) hx0 hb hc ((hN.1.2 3 _ rfl).1 n _) rfl (fun h => by cases h) (by show ¬ (_ ∨ (arrV _ _ _).slots.size ≤ _); rw [arrV_size]; exact vp_in_nI hi hn) (by rw [nI_clamp (by omega), arrV_read _ _ hi, hp]; rfl) rfl rfl d
    (k l p e R s m args below meth c D t A sh0 ad0 ad mc ms H locs cells slots ls C hc0 hs0 ⟨x1, x2, x3, x4, am_okc trivial (am_okt (am_okt x5)), x6⟩)
theorem r_aastoreS {q n z : Nat} {x : Int32} (i : Nat) (d : decode mi.2.1 pc = .ok (.aastore, 1)) (hs : sh q = (5, n)) (hz : sh z = (1, 5)) (hx : x = nI i) (hi : i < n) (hn : n < 2147483648) (k : am_R mi post fr lo c0 s0 (pc + 1) lv st sh I (va_up P q (va_up (P q) i (some z)))) : am_R mi post fr lo c0 s0 pc lv (.ref z :: .int x :: .ref q :: st) sh I P := by
  intro l p e R s m args below meth c D t A sh0 ad0 ad mc ms H locs cells slots ls C hc0 hs0 X
  obtain ⟨hx0, hb, hml, hr, hown, hts, hlk, hnm, hroom, hN, hA⟩ := id C
  obtain ⟨x1, x2, x3, x4, x5, x6⟩ := X
  subst hx
  have hc : H[ad q]? = some (arrV (t 3) n (fun j => am_rf ad (P q j))) := x1.at hs
  obtain ⟨r', hr', cellV, g1, g2, g3, -⟩ := x1.at hz
  have hcls := (hN.1.1 5 _ rfl).2
  obtain ⟨kA, comp, k1, k2, k3, -⟩ := (hN.1.2 3 _ rfl).2
  have hcomp : comp = D.1 5 := Option.some.inj (k3.symm.trans hcls.1)
  subst hcomp
  obtain ⟨kC, hkC, -⟩ := hcls.2
  have hcl : (nI i).toNatClampNeg = i := nI_clamp (by omega)
  have hzb : (sh z).1 ≠ 0 := by rw [hz]; exact Nat.one_ne_zero
  refine W.aast hx0 hb hc (fun q h => by cases h) (fun h => by cases h) k1 k2 rfl hkC ⟨nI_pos (by omega), by show _ < (arrV _ _ _).slots.size; rw [arrV_size, hcl]; exact hi⟩ g1 (fun q h => by rw [g3] at h; cases h) (by rw [g2]; exact hkC) (by rw [g2]; exact va_assign hcls) rfl rfl d fun H1 e1 z1 oq => ?_
  have e2 : H1[ad q]? = some (arrV (t 3) n (fun j => am_rf ad (va_up (P q) i (some z) j))) := by
    rw [e1, hcl, arrV_store]
    congr 2
    funext j
    by_cases hj : j = i <;> simp [updV, va_up, hj, am_rf]
  refine k l p e R s m args below meth c D t A sh0 ad0 ad mc ms H1 _ cells slots ls C hc0 hs0 ⟨x1.setP (by rw [hs]; exact Nat.succ_ne_zero _) (fun j y hy => ?_) (by rw [hs]; exact e2) oq, x2, x3.put z1 oq (x1.1 q (by rw [hs]; exact Nat.succ_ne_zero _)), x4, am_okt (am_okt (am_okt x5)), x6⟩
  by_cases hj : j = i
  · simp only [va_up, hj, if_true] at hy
    cases hy
    exact hzb
  · simp only [va_up, hj, if_false] at hy
    exact x1.2.2.1 q j y (by rw [hs]; exact Nat.succ_ne_zero _) hy
theorem r_alen {q n : Nat} (d : decode mi.2.1 pc = .ok (.arraylength, 1)) (hs : sh q = (2, n)) (k : am_R mi post fr lo c0 s0 (pc + 1) lv (.int (nI n) :: st) sh I P) : am_R mi post fr lo c0 s0 pc lv (.ref q :: st) sh I P := by
  intro l p e R s m args below meth c D t A sh0 ad0 ad mc ms H locs cells slots ls C hc0 hs0 X
  obtain ⟨hx0, hb, hml, hr, hown, hts, hlk, hnm, hroom, hN, hA⟩ := id C
  obtain ⟨x1, x2, x3, x4, x5, x6⟩ := X
  have hc : H[ad q]? = some (arrV (t 0) n (fun j => .int (I q j))) := x1.at hs
  exact W.alen hx0 hb hc ((hN.1.2 0 _ rfl).1 n _) (by rw [arrV_size]; rfl) rfl rfl d
    (k l p e R s m args below meth c D t A sh0 ad0 ad mc ms H locs cells slots ls C hc0 hs0 ⟨x1, x2, x3, x4, am_okc trivial (am_okt x5), x6⟩)
/-- a kind of object that is made -/
def am_K (own : String) (idx ci N : Nat) : Prop := ∃ (C : String) (T : u_T), am_cl[ci]? = some (C, T, N) ∧ (∀ w ∈ u_ws C T N, w ∈ am_tb) ∧ Cond.classLink own idx C ∈ am_tb ∧ Cond.instantiable C N ∈ am_tb ∧ Cond.initialized C ∈ am_tb ∧ (∀ k, k < N → parseFieldDescriptor (T k).2.2.1 = some (am_ty ci k)) ∧ ∀ k, k < N → defaultValue (am_ty ci k) = if am_isR (am_ty ci k) = true then .null else .int 0
theorem r_new {idx ci N : Nat} (k : Nat) (d : decode mi.2.1 pc = .ok (.new idx, 3)) (hK : am_K mi.1.cls idx ci N) (hk : (sh k).1 = 0) (hc1 : 1 ≤ c0) (hs1 : N ≤ s0) (kk : am_R mi post fr lo (c0 - 1) (s0 - N) (pc + 3) lv (.ref k :: st) (va_up sh k (1, ci)) (va_up I k (fun _ => 0)) (va_up P k (fun _ => none))) : am_R mi post fr lo c0 s0 pc lv st sh I P := by
  intro l p e R s m args below meth c D t A sh0 ad0 ad mc ms H locs cells slots ls C hc0 hs0 X
  obtain ⟨hx0, hb, hml, hr, hown, hts, hlk, hnm, hroom, hN, hA⟩ := id C
  obtain ⟨C1, T1, g1, g2, g3, g4, g5, g6, g7⟩ := hK
  have hst := X.2.2.2.2.1
  have hKn := hN.1.1 ci _ g1
  refine W.newcK hx0 hb hown (hts _ g3) (hts _ g4) (hts _ g5) rfl d (by omega) (by omega) hKn.2.1 rfl fun H1 kC hkC e1 z1 o1 => ?_
  have X2 := X.born (st := st) (H1 := H1) (k := k) (q := (1, ci)) hst hk Nat.one_ne_zero hA ⟨_, g1, (u_born (am_ty ci) hts g2 hKn hkC e1 g6).to (fun j hj => by rw [g7 j hj]; rfl)⟩ z1 o1
  have h9 := kk l p e R s m args below meth c D t A sh0 ad0 _ mc ms H1 locs (cells + 1) (slots + N) ls C (by omega) (by omega) X2
  rw [List.map_cons, cv_mapup hk hst, show cv (va_up ad k H.size) (.ref k) = .ref H.size by simp [cv, va_up]] at h9
  exact h9
theorem am_sum (ad : Nat → Nat) (h : ∀ v ∈ st, am_ok sh v) : ((st.map (cv ad)).map fun v => v.category).sum = st.length := by
  induction st with
  | nil => rfl
  | cons v st ih =>
    rw [List.map_cons, List.map_cons, List.sum_cons, ih (am_okt h), am_catc ad (am_okh h), List.length_cons]
    omega
theorem r_obj {idx q : Nat} (d : decode mi.2.1 pc = .ok (.invokespecial idx, 3)) (hw : Cond.methodLink mi.1.cls idx objectInit ∈ am_tb ∧ Cond.instanceMethod objectInit ∈ am_tb ∧ Cond.code objectInit ⟨#[0xb1]⟩ 1 none ∈ am_tb) (hroom : 1 ≤ fr ∧ st.length + 12 ≤ lo) (k : am_R mi post fr lo c0 s0 (pc + 3) lv st sh I P) : am_R mi post fr lo c0 s0 pc lv (.ref q :: st) sh I P := by
  intro l p e R s m args below meth c D t A sh0 ad0 ad mc ms H locs cells slots ls C hc0 hs0 X
  obtain ⟨hx0, hb, hml, hr, hown, hts, hlk, hnm, hrm, hN, hA⟩ := id C
  obtain ⟨x1, x2, x3, x4, x5, x6⟩ := X
  have h1 := am_sum ad (am_okt x5)
  exact W.objInit hx0 hb hown (hts _ hw.1) (hts _ hw.2.1) (hts _ hw.2.2) rfl (by rw [hml]; exact x4.2.1) (rest := st.map (cv ad)) rfl d (by omega) (by show 2 * 0 + _ + 12 ≤ _; omega)
    (k l p e R s m args below meth c D t A sh0 ad0 ad mc ms H locs cells slots ls C hc0 hs0 ⟨x1, x2, x3, x4, am_okt x5, x6⟩)
theorem r_ireturn {v : Int32} (d : decode mi.2.1 pc = .ok (.ireturn, 1)) (ty : FieldType) (hty : mi.2.2.2 = some ty) (hn : narrow ty (.int v) = .int v) (hp : post (some v) sh I P) : am_R mi post fr lo c0 s0 pc lv [.int v] sh I P := by
  intro l p e R s m args below meth c D t A sh0 ad0 ad mc ms H locs cells slots ls C hc0 hs0 X
  obtain ⟨hx0, hb, hml, hr, hown, hts, hlk, hnm, hrm, hN, hA⟩ := id C
  obtain ⟨x1, x2, x3, x4, x5, x6⟩ := X
  refine W.widen (k := mc) (n := ms) (by omega) (by omega) ?_
  exact W.zret hx0 hb (hr.trans hty) hn (fun u hu hW => ⟨⟨some v, ad, sh, I, P, rfl, hp, x2, by rw [hu]; exact x1⟩, x3.F hu⟩) x3.2.2 d
theorem r_return (d : decode mi.2.1 pc = .ok (.return_, 1)) (hty : mi.2.2.2 = none) (hp : post none sh I P) : am_R mi post fr lo c0 s0 pc lv [] sh I P := by
  intro l p e R s m args below meth c D t A sh0 ad0 ad mc ms H locs cells slots ls C hc0 hs0 X
  obtain ⟨hx0, hb, hml, hr, hown, hts, hlk, hnm, hrm, hN, hA⟩ := id C
  obtain ⟨x1, x2, x3, x4, x5, x6⟩ := X
  refine W.widen (k := mc) (n := ms) (by omega) (by omega) ?_
  exact W.vret hx0 hb (hr.trans hty) (fun u hu hW => ⟨⟨none, ad, sh, I, P, rfl, hp, x2, by rw [hu]; exact x1⟩, x3.F hu⟩) x3.2.2 d
/-! a contract out of a run, and calls -/
def am_ent (As : List Value) (n : Nat) : List (Option Value) := As.map some ++ List.replicate (n - As.length) none
def am_Pc (D : va_G) (t : Nat → ClassId) (A : Nat → Prop) (ad : Nat → Nat) (sh : ASh) (I : AIn) (P : APt) (As : List Value) : Array Value → State → Prop := fun v U => v = (As.map (cv ad)).toArray ∧ am_W D t A ad sh I P U.heap ∧ am_N D t A U U.heap ∧ (∀ q, U.heap.size ≤ q → A q) ∧ ∀ v ∈ As, am_ok sh v
theorem am_sl {ad : Nat → Nat} {As : List Value} (h : ∀ v ∈ As, am_ok sh v) : lg_sl (As.map (cv ad)) = (As.map (cv ad)).map Slot.val := by
  induction As with
  | nil => rfl
  | cons v As ih =>
    have h1 := am_catc ad (am_okh h)
    have h2 := ih (am_okt h)
    unfold lg_sl at h2 ⊢
    rw [List.map_cons, List.flatMap_cons, h2, List.map_cons, if_neg (by rw [h1]; decide)]
    rfl
theorem am_entL {ad : Nat → Nat} {As : List Value} {n : Nat} (h : ∀ v ∈ As, am_ok sh v) (hn : As.length ≤ n) : am_L ad ((lg_sl (As.map (cv ad)) ++ List.replicate (n - (lg_sl (As.map (cv ad))).length) Slot.unset).toArray) n (am_ent As n) := by
  have hl := lv_entry (As.map (cv ad)) (n := n) (by rw [am_sl h]; simpa using hn)
  refine ⟨by simp [am_ent]; omega, hl.1, hl.2.1, fun i v hv => ?_⟩
  have hi : i < As.length := by
    rcases Nat.lt_or_ge i As.length with q | q
    · exact q
    · unfold am_ent at hv
      rw [List.getElem?_append_right (by simpa using q)] at hv
      have := List.mem_of_getElem? hv
      rw [List.mem_replicate] at this
      cases this.2
  unfold am_ent at hv
  rw [List.getElem?_append_left (by simpa using hi), List.getElem?_map] at hv
  cases hA : As[i]? with
  | none => rw [hA] at hv; cases hv
  | some w =>
    rw [hA] at hv
    cases hv
    rw [am_sl h, List.getElem?_toArray, List.getElem?_append_left (by simpa using hi), List.getElem?_map, List.getElem?_map, hA]
    rfl
theorem am_ent_ok {As : List Value} {n : Nat} (h : ∀ v ∈ As, am_ok sh v) : ∀ (i : Nat) (v : Value), (am_ent As n)[i]? = some (some v) → am_ok sh v := by
  intro i v hv
  have h1 := List.mem_of_getElem? hv
  unfold am_ent at h1
  rcases List.mem_append.mp h1 with h1 | h1
  · obtain ⟨w, hw, e⟩ := List.mem_map.mp h1
    cases e
    exact h v hw
  · rw [List.mem_replicate] at h1
    cases h1.2
theorem am_met {As : List Value} {mc ms : Nat} (hrun : am_R mi post fr lo mc ms 0 (am_ent As mi.2.2.1) [] sh I P) (hy : plainName mi.1.cls = true) (hAs : As.length ≤ mi.2.2.1) (l : Launch) (D : va_G) (t : Nat → ClassId) (A : Nat → Prop) (ad : Nat → Nat) :
    Met l mi.1 (Cond.code mi.1 mi.2.1 mi.2.2.1 mi.2.2.2 :: am_tb) ({ frames := fr, cells := mc, slots := ms, locals := lo }) (am_Pc D t A ad sh I P As) (am_Q D t A ad sh post) mc ms A := by
  refine Met.ofW (cc := mi.2.1) (maxL := mi.2.2.1) (ret := mi.2.2.2) hy rfl ?_
  intro p e s m args below meth c s₁ B hml hv
  obtain ⟨rfl, hW, hN, hA, hok⟩ := hv
  have hts := atoms_spec (ws := Cond.code mi.1 mi.2.1 mi.2.2.1 mi.2.2.2 :: am_tb) B.pre
  rw [lg_entry_eq]
  exact hrun l p e _ s m _ below meth c D t A sh ad ad mc ms s.heap [] 0 0 _ ⟨B.exec, B.bytes, hml, B.returns, findClass_of_methodNamed B.named, fun w hw => hts w (List.mem_cons_of_mem _ hw), B.notSynchronized, (name_of_methodNamed B.named B.method).1, ⟨Nat.le_refl _, Nat.le_refl _, Nat.le_refl _, Nat.le_refl _⟩, hN, hA⟩ (by omega) (by omega)
    ⟨hW, fun k hk => ⟨hk, rfl⟩, va_S.rf, am_entL hok hAs, (fun v hv => absurd hv List.not_mem_nil), am_ent_ok hok⟩
theorem am_blind (D : va_G) (t : Nat → ClassId) (A : Nat → Prop) (ad : Nat → Nat) (As : List Value) : FrameBlind (am_Pc D t A ad sh I P As) := fun a U g mk q => by
  obtain ⟨q0, q1, q2, q3, q4⟩ := q
  exact ⟨q0, q1, q2.same rfl, q3, q4⟩
theorem am_ret {p : Program} {l : Launch} {e : Env} {R : Room} {s : State} {m : MethodId} {args : Array Value} {below : List Frame} {meth : Method} {c : Code} {H : Heap} {locs : List Loc} {cells slots mc ms : Nat} {Q : State → Prop} {ls : Array Slot} {rest st0 : List Value} {a : Array Value} {D : va_G} {t : Nat → ClassId} {A : Nat → Prop} {ad : Nat → Nat}
    (hr : va_Run p l e R s m args below meth c H locs cells slots mc ms (F0 m pc ls st0) rest (am_Q D t A ad sh post a) A) (hS : va_S A s.heap H locs)
    (kk : ∀ (r : Option Int32) (ad' : Nat → Nat) (sh' : ASh) (I' : AIn) (P' : APt) (H1 : Heap) (locs1 : List Loc), post r sh' I' P' → am_E sh ad sh' ad' → am_W D t A ad' sh' I' P' H1 → va_S A s.heap H1 locs1 → W p l e R s m args below meth c H1 locs1 (cells + mc) (slots + ms) Q (F0 m (pc + 3) ls ((r.map Value.int).toList ++ rest))) : W p l e R s m args below meth c H locs cells slots Q (F0 m pc ls st0) := by
  intro T hT X
  obtain ⟨v, st₀, u, T', L, h0, X', hL, e1, e2, ⟨⟨r, ad', sh', I', P', hv, hp, hE, hw⟩, hz, hk⟩, stp⟩ := hr T hT X
  cases hv
  rw [h0] at hz hk
  obtain ⟨t2, a1, b1⟩ := kk r ad' sh' I' P' T'.heap (locs ++ L) hp hE (by rw [e1]; exact hw)
    ⟨Nat.le_trans hS.1 (by rw [e1]; exact hz), fun q h1 h2 => by rw [e1, hk q (Nat.lt_of_lt_of_le h1 hS.1) h2]; exact hS.2.1 q h1 h2, fun q hq => by
      rcases List.mem_append.mp hq with h | h
      · exact hS.2.2 q h
      · exact hL q h⟩ T' rfl X'
  exact ⟨t2, stp t2 a1, b1⟩
theorem cv_E {sh0 : ASh} {ad0 ad : Nat → Nat} {v : Value} (hE : am_E sh0 ad0 sh ad) (h : am_ok sh0 v) : cv ad v = cv ad0 v := by
  cases v with
  | ref z => simp only [cv, (hE z h).2]
  | _ => rfl
theorem am_ok_E {sh0 : ASh} {ad0 ad : Nat → Nat} {v : Value} (hE : am_E sh0 ad0 sh ad) (h : am_ok sh0 v) : am_ok sh v := by
  cases v with
  | ref z => exact (hE z h).1
  | _ => exact h
theorem am_after {D : va_G} {t : Nat → ClassId} {A : Nat → Prop} {sh0 sh' : ASh} {ad0 ad ad' : Nat → Nat} {H0 H H1 : Heap} {locs locs1 : List Loc} {ls : Array Slot} {n : Nat} {I' : AIn} {P' : APt} {st0 : List Value} {r : Option Int32} (X : am_X D t A sh0 ad0 ad H0 H locs ls n lv st0 sh I P) (hst : ∀ v ∈ st, am_ok sh v) (hE : am_E sh ad sh' ad') (hw : am_W D t A ad' sh' I' P' H1) (hS : va_S A H0 H1 locs1) :
    am_X D t A sh0 ad0 ad' H0 H1 locs1 ls n lv ((r.map Value.int).toList ++ st) sh' I' P' ∧ ((r.map Value.int).toList ++ st).map (cv ad') = (r.map Value.int).toList ++ st.map (cv ad) := by
  obtain ⟨x1, x2, x3, x4, x5, x6⟩ := X
  refine ⟨⟨hw, fun k hk => ⟨(hE k (x2 k hk).1).1, (hE k (x2 k hk).1).2.trans (x2 k hk).2⟩, hS, ⟨x4.1, x4.2.1, x4.2.2.1, fun i v hv => by rw [cv_E hE (x6 i v hv)]; exact x4.2.2.2 i v hv⟩, fun v hv => ?_, fun i v hv => am_ok_E hE (x6 i v hv)⟩, ?_⟩
  · rcases List.mem_append.mp hv with h | h
    · cases r with
      | none => cases h
      | some x =>
        rw [List.mem_singleton.mp h]
        trivial
    · exact am_ok_E hE (hst v h)
  · rw [List.map_append]
    congr 1
    · cases r <;> rfl
    · exact List.map_congr_left (fun v hv => cv_E hE (hst v hv))
/-- what the tables say of a method that is called -/
def am_M (mi : MI) (n : Nat) : Prop := Cond.code mi.1 mi.2.1 mi.2.2.1 mi.2.2.2 ∈ am_tb ∧ Cond.initialized mi.1.cls ∈ am_tb ∧ (mi.1.cls ≠ "java/lang/invoke/MethodHandle" ∧ mi.1.cls ≠ "java/lang/invoke/VarHandle") ∧ (parseMethodDescriptor mi.1.desc).map (fun d => d.parameters.length) = some n ∧ plainName mi.1.cls = true
theorem am_cb {mi' : MI} {R : Room} {s : State} {args : Array Value} {fr' lo' mc' ms' n idx : Nat} (hM : am_M mi' n) (hl : Cond.methodLink mi.1.cls idx mi'.1 ∈ am_tb) (hts : ∀ w ∈ am_tb, w.before args s = true) (hR : fr' + 1 ≤ R.frames ∧ 8 + (mi'.2.2.1 + 11) + lo' ≤ R.locals) :
    CallB R s args mi.1.cls idx mi'.1 mi'.2.1 mi'.2.2.1 mi'.2.2.2 (Cond.code mi'.1 mi'.2.1 mi'.2.2.1 mi'.2.2.2 :: am_tb) ({ frames := fr', cells := mc', slots := ms', locals := lo' }) mc' ms' n := by
  obtain ⟨h1, h2, h3, h4, h5⟩ := hM
  have hG : GoodIn am_tb (Cond.code mi'.1 mi'.2.1 mi'.2.2.1 mi'.2.2.2 :: am_tb) := fun w hw => by
    rcases List.mem_cons.mp hw with rfl | hw
    · exact ⟨h1, am_good _ h1⟩
    · exact ⟨hw, am_good _ hw⟩
  exact callB_of n hts hG rfl rfl rfl (hts _ h2) (hts _ hl) ⟨h3.1, h3.2, h4⟩ hR
theorem am_pre {D : va_G} {t : Nat → ClassId} {A : Nat → Prop} {sh0 : ASh} {ad0 ad : Nat → Nat} {s : State} {H : Heap} {locs : List Loc} {ls : Array Slot} {n : Nat} {st0 As : List Value} (X : am_X D t A sh0 ad0 ad s.heap H locs ls n lv st0 sh I P) (hN : am_N D t A s s.heap) (hA : ∀ q, s.heap.size ≤ q → A q) (hAs : ∀ v ∈ As, am_ok sh v) : ∀ U : State, U.heap = H → s.WarmedH U.vm → am_Pc D t A ad sh I P As (As.map (cv ad)).toArray U := by
  intro U hU hW
  obtain ⟨x1, x2, x3, x4, x5, x6⟩ := X
  exact ⟨rfl, by rw [hU]; exact x1, by rw [hU]; exact hN.moved hW x3.2.1, fun q hq => hA q (Nat.le_trans x3.1 (by rw [← hU]; exact hq)), hAs⟩
theorem am_ok_rev {As : List Value} {v : Value} (h : ∀ w ∈ As.reverse ++ v :: st, am_ok sh w) : (∀ w ∈ v :: As, am_ok sh w) ∧ ∀ w ∈ st, am_ok sh w := by
  refine ⟨fun w hw => h w ?_, fun w hw => h w (List.mem_append_right _ (List.mem_cons_of_mem _ hw))⟩
  rcases List.mem_cons.mp hw with rfl | hw
  · exact List.mem_append_right _ List.mem_cons_self
  · exact List.mem_append_left _ (List.mem_reverse.mpr hw)
theorem am_callV {mi' : MI} {post' : APo} {fr' lo' mc' ms' n idx q ci : Nat} (As : List Value) (d : decode mi.2.1 pc = .ok (.invokevirtual idx, 3)) (hM : am_M mi' n) (hi : Cond.instanceMethod mi'.1 ∈ am_tb ∧ Cond.selects mi'.1.cls mi'.1 mi'.1 ∈ am_tb) (hl : Cond.methodLink mi.1.cls idx mi'.1 ∈ am_tb) (hs : sh q = (1, ci)) (hci : ∃ T N, am_cl[ci]? = some (mi'.1.cls, T, N)) (hn : As.length = n) (hmx : n + 1 ≤ mi'.2.2.1) (hroom : fr' + 1 ≤ fr ∧ 8 + (mi'.2.2.1 + 11) + lo' ≤ lo) (hmc : mc' ≤ c0) (hms : ms' ≤ s0) (hst : st.length ≤ 8)
    (hc : am_R mi' post' fr' lo' mc' ms' 0 (am_ent (.ref q :: As) mi'.2.2.1) [] sh I P) (k : ∀ r sh' I' P', post' r sh' I' P' → am_R mi post fr lo (c0 - mc') (s0 - ms') (pc + 3) lv ((r.map Value.int).toList ++ st) sh' I' P') : am_R mi post fr lo c0 s0 pc lv (As.reverse ++ .ref q :: st) sh I P := by
  intro l p e R s m args below meth c D t A sh0 ad0 ad mc ms H locs cells slots ls C hc0 hs0 X
  obtain ⟨hx0, hb, hml, hr, hown, hts, hlk, hnm, hrm, hN, hA⟩ := id C
  obtain ⟨hok, hst2⟩ := am_ok_rev X.2.2.2.2.1
  obtain ⟨T1, N1, g1⟩ := hci
  have h1 := am_sum ad hst2
  have hrecv : ∃ cellB : Cell, H[ad q]? = some cellB ∧ cellB.vm.isStatics = false ∧ s.vm.findClass mi'.1.cls = some cellB.cls := by
    obtain ⟨r, h1, cell, q1, q2, q3, -⟩ := X.1.at hs
    exact ⟨cell, q1, by rw [q3]; rfl, by rw [q2]; exact (hN.1.1 ci _ g1).2.1⟩
  have hstk : (As.reverse ++ .ref q :: st).map (cv ad) = (As.map (cv ad)).reverse ++ .ref (ad q) :: st.map (cv ad) := by rw [List.map_append, List.map_reverse]; rfl
  refine am_ret (va_runV (As := As.map (cv ad)) (rest := st.map (cv ad)) (b := ad q) ⟨hx0, hb, hml, hown, hts⟩ (am_met hc hM.2.2.2.2 (by rw [List.length_cons, hn]; exact hmx) l D t A ad) ⟨am_cb hM hl hts ⟨by omega, by omega⟩, hts _ hi.1, hts _ hi.2⟩ ⟨am_blind D t A ad _, hrecv, am_pre X hN hA hok⟩ rfl (by rw [List.length_map]; exact hn) X.2.2.2.1.2.1 hstk ?_ d ⟨by omega, by omega⟩) X.2.2.1 (fun r ad' sh' I' P' H1 locs1 hp hE hw hS => ?_)
  · show 2 * 0 + _ ≤ 8
    omega
  · obtain ⟨X2, e2⟩ := am_after (r := r) X hst2 hE hw hS
    have h9 := k r sh' I' P' hp l p e R s m args below meth c D t A sh0 ad0 ad' mc ms H1 locs1 (cells + mc') (slots + ms') ls C (by omega) (by omega) X2
    rw [e2] at h9
    exact h9
theorem am_callS {mi' : MI} {post' : APo} {fr' lo' mc' ms' n idx : Nat} (As : List Value) (d : decode mi.2.1 pc = .ok (.invokestatic idx, 3)) (hM : am_M mi' n) (hi : Cond.static mi'.1 ∈ am_tb) (hl : Cond.methodLink mi.1.cls idx mi'.1 ∈ am_tb) (hn : As.length = n) (hmx : n ≤ mi'.2.2.1) (hroom : fr' + 1 ≤ fr ∧ 8 + (mi'.2.2.1 + 11) + lo' ≤ lo) (hmc : mc' ≤ c0) (hms : ms' ≤ s0) (hst : st.length ≤ 8)
    (hc : am_R mi' post' fr' lo' mc' ms' 0 (am_ent As mi'.2.2.1) [] sh I P) (k : ∀ r sh' I' P', post' r sh' I' P' → am_R mi post fr lo (c0 - mc') (s0 - ms') (pc + 3) lv ((r.map Value.int).toList ++ st) sh' I' P') : am_R mi post fr lo c0 s0 pc lv (As.reverse ++ st) sh I P := by
  intro l p e R s m args below meth c D t A sh0 ad0 ad mc ms H locs cells slots ls C hc0 hs0 X
  obtain ⟨hx0, hb, hml, hr, hown, hts, hlk, hnm, hrm, hN, hA⟩ := id C
  have hok : ∀ w ∈ As, am_ok sh w := fun w hw => X.2.2.2.2.1 w (List.mem_append_left _ (List.mem_reverse.mpr hw))
  have hst2 : ∀ w ∈ st, am_ok sh w := fun w hw => X.2.2.2.2.1 w (List.mem_append_right _ hw)
  have h1 := am_sum ad hst2
  have hstk : (As.reverse ++ st).map (cv ad) = (As.map (cv ad)).reverse ++ st.map (cv ad) := by rw [List.map_append, List.map_reverse]
  refine am_ret (va_runS (As := As.map (cv ad)) (rest := st.map (cv ad)) ⟨hx0, hb, hml, hown, hts⟩ (am_met hc hM.2.2.2.2 (by rw [hn]; exact hmx) l D t A ad) ⟨am_cb hM hl hts ⟨by omega, by omega⟩, hts _ hi⟩ ⟨am_blind D t A ad _, am_pre X hN hA hok⟩ rfl (by rw [List.length_map]; exact hn) X.2.2.2.1.2.1 hstk ?_ d ⟨by omega, by omega⟩) X.2.2.1 (fun r ad' sh' I' P' H1 locs1 hp hE hw hS => ?_)
  · show 2 * 0 + _ ≤ 8
    omega
  · obtain ⟨X2, e2⟩ := am_after (r := r) X hst2 hE hw hS
    have h9 := k r sh' I' P' hp l p e R s m args below meth c D t A sh0 ad0 ad' mc ms H1 locs1 (cells + mc') (slots + ms') ls C (by omega) (by omega) X2
    rw [e2] at h9
    exact h9
theorem am_callI {mi' : MI} {post' : APo} {fr' lo' mc' ms' n idx q : Nat} (As : List Value) (d : decode mi.2.1 pc = .ok (.invokespecial idx, 3)) (hM : am_M mi' n) (hret : mi'.2.2.2 = none) (hi : Cond.instanceMethod mi'.1 ∈ am_tb) (hnm2 : mi'.1.name = "<init>") (hl : Cond.methodLink mi.1.cls idx mi'.1 ∈ am_tb) (hn : As.length = n) (hmx : n + 1 ≤ mi'.2.2.1) (hroom : fr' + 1 ≤ fr ∧ 8 + (mi'.2.2.1 + 11) + lo' ≤ lo) (hmc : mc' ≤ c0) (hms : ms' ≤ s0) (hst : st.length ≤ 8)
    (hc : am_R mi' post' fr' lo' mc' ms' 0 (am_ent (.ref q :: As) mi'.2.2.1) [] sh I P) (k : ∀ r sh' I' P', post' r sh' I' P' → am_R mi post fr lo (c0 - mc') (s0 - ms') (pc + 3) lv ((r.map Value.int).toList ++ st) sh' I' P') : am_R mi post fr lo c0 s0 pc lv (As.reverse ++ .ref q :: st) sh I P := by
  intro l p e R s m args below meth c D t A sh0 ad0 ad mc ms H locs cells slots ls C hc0 hs0 X
  obtain ⟨hx0, hb, hml, hr, hown, hts, hlk, hnm, hrm, hN, hA⟩ := id C
  obtain ⟨hok, hst2⟩ := am_ok_rev X.2.2.2.2.1
  have h1 := am_sum ad hst2
  have hstk : (As.reverse ++ .ref q :: st).map (cv ad) = (As.map (cv ad)).reverse ++ .ref (ad q) :: st.map (cv ad) := by rw [List.map_append, List.map_reverse]; rfl
  have hcb := am_cb (mi := mi) (mc' := mc') (ms' := ms') (R := R) hM hl hts (fr' := fr') (lo' := lo') ⟨by omega, by omega⟩
  have hmt := am_met hc hM.2.2.2.2 (by rw [List.length_cons, hn]; exact hmx) l D t A ad
  rw [hret] at hcb hmt
  refine am_ret (va_runI (As := As.map (cv ad)) (rest := st.map (cv ad)) (b := ad q) ⟨hx0, hb, hml, hown, hts⟩ hmt ⟨hcb, hnm2, hts _ hi⟩ ⟨am_blind D t A ad _, am_pre X hN hA hok⟩ rfl (by rw [List.length_map]; exact hn) X.2.2.2.1.2.1 hstk ?_ d ⟨by omega, by omega⟩) X.2.2.1 (fun r ad' sh' I' P' H1 locs1 hp hE hw hS => ?_)
  · show 2 * 0 + _ ≤ 8
    omega
  · obtain ⟨X2, e2⟩ := am_after (r := r) X hst2 hE hw hS
    have h9 := k r sh' I' P' hp l p e R s m args below meth c D t A sh0 ad0 ad' mc ms H1 locs1 (cells + mc') (slots + ms') ls C (by omega) (by omega) X2
    rw [e2] at h9
    exact h9
theorem am_callN {mi' : MI} {post' : APo} {fr' lo' mc' ms' n idx q : Nat} (As : List Value) (d : decode mi.2.1 pc = .ok (.invokespecial idx, 3)) (hM : am_M mi' n) (hret : mi'.2.2.2 = none) (hi : Cond.instanceMethod mi'.1 ∈ am_tb) (hnm2 : mi'.1.name = "<init>") (host : String) (hl : (mi.1.cls, idx, mi'.1, host) ∈ am_ne) (hn : As.length = n) (hmx : n + 1 ≤ mi'.2.2.1) (hroom : fr' + 1 ≤ fr ∧ 8 + (mi'.2.2.1 + 11) + lo' ≤ lo) (hmc : mc' ≤ c0) (hms : ms' ≤ s0) (hst : st.length ≤ 8)
    (hc : am_R mi' post' fr' lo' mc' ms' 0 (am_ent (.ref q :: As) mi'.2.2.1) [] sh I P) (k : ∀ r sh' I' P', post' r sh' I' P' → am_R mi post fr lo (c0 - mc') (s0 - ms') (pc + 3) lv ((r.map Value.int).toList ++ st) sh' I' P') : am_R mi post fr lo c0 s0 pc lv (As.reverse ++ .ref q :: st) sh I P := by
  intro l p e R s m args below meth c D t A sh0 ad0 ad mc ms H locs cells slots ls C hc0 hs0 X
  obtain ⟨hx0, hb, hml, hr, hown, hts, hlk, hnm, hrm, hN, hA⟩ := id C
  obtain ⟨hok, hst2⟩ := am_ok_rev X.2.2.2.2.1
  have h1 := am_sum ad hst2
  have hstk : (As.reverse ++ .ref q :: st).map (cv ad) = (As.map (cv ad)).reverse ++ .ref (ad q) :: st.map (cv ad) := by rw [List.map_append, List.map_reverse]; rfl
  have hmt := am_met hc hM.2.2.2.2 (by rw [List.length_cons, hn]; exact hmx) l D t A ad
  have hG : GoodIn am_tb (Cond.code mi'.1 mi'.2.1 mi'.2.2.1 mi'.2.2.2 :: am_tb) := fun w hw => by
    rcases List.mem_cons.mp hw with rfl | hw
    · exact ⟨hM.1, am_good _ hM.1⟩
    · exact ⟨hw, am_good _ hw⟩
  have hcn := va_cnB (R := R) (args := args) (own := mi.1.cls) (host := host) (index := idx) (mc := mc') (ms := ms') (rm := { frames := fr', cells := mc', slots := ms', locals := lo' }) n hts hG rfl rfl rfl (hN.2.2.1 _ hl) (hts _ hM.2.1) ⟨hM.2.2.1.1, hM.2.2.1.2, hM.2.2.2.1⟩ ⟨by show fr' + 1 ≤ _; omega, by show 8 + (mi'.2.2.1 + 11) + lo' ≤ _; omega⟩
  rw [hret] at hcn hmt
  refine am_ret (va_runIN (As := As.map (cv ad)) (rest := st.map (cv ad)) (b := ad q) ⟨hx0, hb, hml, hown, hts⟩ hmt ⟨hcn, hnm2, hts _ hi⟩ ⟨am_blind D t A ad _, am_pre X hN hA hok⟩ rfl (by rw [List.length_map]; exact hn) X.2.2.2.1.2.1 hstk ?_ d ⟨by omega, by omega⟩) X.2.2.1 (fun r ad' sh' I' P' H1 locs1 hp hE hw hS => ?_)
  · show 2 * 0 + _ ≤ 8
    omega
  · obtain ⟨X2, e2⟩ := am_after (r := r) X hst2 hE hw hS
    have h9 := k r sh' I' P' hp l p e R s m args below meth c D t A sh0 ad0 ad' mc ms H1 locs1 (cells + mc') (slots + ms') ls C (by omega) (by omega) X2
    rw [e2] at h9
    exact h9
end AMB
end
section
/-! calls by the number of what they take; fixed tables; copies -/
section AMV
variable {mi mi' : MI} {post post' : APo} {fr lo c0 s0 pc fr' lo' mc' ms' idx q ci : Nat} {lv : List (Option Value)} {st : List Value} {sh : ASh} {I : AIn} {P : APt}
theorem r_callV0 (d : decode mi.2.1 pc = .ok (.invokevirtual idx, 3)) (hM : am_M mi' 0) (hi : Cond.instanceMethod mi'.1 ∈ am_tb ∧ Cond.selects mi'.1.cls mi'.1 mi'.1 ∈ am_tb) (hl : Cond.methodLink mi.1.cls idx mi'.1 ∈ am_tb) (hs : sh q = (1, ci)) (hci : ∃ T N, am_cl[ci]? = some (mi'.1.cls, T, N)) (hmx : 1 ≤ mi'.2.2.1) (hroom : fr' + 1 ≤ fr ∧ 8 + (mi'.2.2.1 + 11) + lo' ≤ lo) (hmc : mc' ≤ c0) (hms : ms' ≤ s0) (hst : st.length ≤ 8)
    (hc : am_R mi' post' fr' lo' mc' ms' 0 (am_ent [.ref q] mi'.2.2.1) [] sh I P) (k : ∀ r sh' I' P', post' r sh' I' P' → am_R mi post fr lo (c0 - mc') (s0 - ms') (pc + 3) lv ((r.map Value.int).toList ++ st) sh' I' P') : am_R mi post fr lo c0 s0 pc lv (.ref q :: st) sh I P :=
  am_callV [] d hM hi hl hs hci rfl hmx hroom hmc hms hst hc k
theorem r_callV1 {a1 : Value} (d : decode mi.2.1 pc = .ok (.invokevirtual idx, 3)) (hM : am_M mi' 1) (hi : Cond.instanceMethod mi'.1 ∈ am_tb ∧ Cond.selects mi'.1.cls mi'.1 mi'.1 ∈ am_tb) (hl : Cond.methodLink mi.1.cls idx mi'.1 ∈ am_tb) (hs : sh q = (1, ci)) (hci : ∃ T N, am_cl[ci]? = some (mi'.1.cls, T, N)) (hmx : 2 ≤ mi'.2.2.1) (hroom : fr' + 1 ≤ fr ∧ 8 + (mi'.2.2.1 + 11) + lo' ≤ lo) (hmc : mc' ≤ c0) (hms : ms' ≤ s0) (hst : st.length ≤ 8)
    (hc : am_R mi' post' fr' lo' mc' ms' 0 (am_ent [.ref q, a1] mi'.2.2.1) [] sh I P) (k : ∀ r sh' I' P', post' r sh' I' P' → am_R mi post fr lo (c0 - mc') (s0 - ms') (pc + 3) lv ((r.map Value.int).toList ++ st) sh' I' P') : am_R mi post fr lo c0 s0 pc lv (a1 :: .ref q :: st) sh I P :=
  am_callV [a1] d hM hi hl hs hci rfl hmx hroom hmc hms hst hc k
theorem r_callS1 {a1 : Value} (d : decode mi.2.1 pc = .ok (.invokestatic idx, 3)) (hM : am_M mi' 1) (hi : Cond.static mi'.1 ∈ am_tb) (hl : Cond.methodLink mi.1.cls idx mi'.1 ∈ am_tb) (hmx : 1 ≤ mi'.2.2.1) (hroom : fr' + 1 ≤ fr ∧ 8 + (mi'.2.2.1 + 11) + lo' ≤ lo) (hmc : mc' ≤ c0) (hms : ms' ≤ s0) (hst : st.length ≤ 8)
    (hc : am_R mi' post' fr' lo' mc' ms' 0 (am_ent [a1] mi'.2.2.1) [] sh I P) (k : ∀ r sh' I' P', post' r sh' I' P' → am_R mi post fr lo (c0 - mc') (s0 - ms') (pc + 3) lv ((r.map Value.int).toList ++ st) sh' I' P') : am_R mi post fr lo c0 s0 pc lv (a1 :: st) sh I P :=
  am_callS [a1] d hM hi hl rfl hmx hroom hmc hms hst hc k
theorem r_callV2 {a1 a2 : Value} (d : decode mi.2.1 pc = .ok (.invokevirtual idx, 3)) (hM : am_M mi' 2) (hi : Cond.instanceMethod mi'.1 ∈ am_tb ∧ Cond.selects mi'.1.cls mi'.1 mi'.1 ∈ am_tb) (hl : Cond.methodLink mi.1.cls idx mi'.1 ∈ am_tb) (hs : sh q = (1, ci)) (hci : ∃ T N, am_cl[ci]? = some (mi'.1.cls, T, N)) (hmx : 3 ≤ mi'.2.2.1) (hroom : fr' + 1 ≤ fr ∧ 8 + (mi'.2.2.1 + 11) + lo' ≤ lo) (hmc : mc' ≤ c0) (hms : ms' ≤ s0) (hst : st.length ≤ 8)
    (hc : am_R mi' post' fr' lo' mc' ms' 0 (am_ent [.ref q, a1, a2] mi'.2.2.1) [] sh I P) (k : ∀ r sh' I' P', post' r sh' I' P' → am_R mi post fr lo (c0 - mc') (s0 - ms') (pc + 3) lv ((r.map Value.int).toList ++ st) sh' I' P') : am_R mi post fr lo c0 s0 pc lv (a2 :: a1 :: .ref q :: st) sh I P :=
  am_callV [a1, a2] d hM hi hl hs hci rfl hmx hroom hmc hms hst hc k
theorem r_callS2 {a1 a2 : Value} (d : decode mi.2.1 pc = .ok (.invokestatic idx, 3)) (hM : am_M mi' 2) (hi : Cond.static mi'.1 ∈ am_tb) (hl : Cond.methodLink mi.1.cls idx mi'.1 ∈ am_tb) (hmx : 2 ≤ mi'.2.2.1) (hroom : fr' + 1 ≤ fr ∧ 8 + (mi'.2.2.1 + 11) + lo' ≤ lo) (hmc : mc' ≤ c0) (hms : ms' ≤ s0) (hst : st.length ≤ 8)
    (hc : am_R mi' post' fr' lo' mc' ms' 0 (am_ent [a1, a2] mi'.2.2.1) [] sh I P) (k : ∀ r sh' I' P', post' r sh' I' P' → am_R mi post fr lo (c0 - mc') (s0 - ms') (pc + 3) lv ((r.map Value.int).toList ++ st) sh' I' P') : am_R mi post fr lo c0 s0 pc lv (a2 :: a1 :: st) sh I P :=
  am_callS [a1, a2] d hM hi hl rfl hmx hroom hmc hms hst hc k
theorem r_callV3 {a1 a2 a3 : Value} (d : decode mi.2.1 pc = .ok (.invokevirtual idx, 3)) (hM : am_M mi' 3) (hi : Cond.instanceMethod mi'.1 ∈ am_tb ∧ Cond.selects mi'.1.cls mi'.1 mi'.1 ∈ am_tb) (hl : Cond.methodLink mi.1.cls idx mi'.1 ∈ am_tb) (hs : sh q = (1, ci)) (hci : ∃ T N, am_cl[ci]? = some (mi'.1.cls, T, N)) (hmx : 4 ≤ mi'.2.2.1) (hroom : fr' + 1 ≤ fr ∧ 8 + (mi'.2.2.1 + 11) + lo' ≤ lo) (hmc : mc' ≤ c0) (hms : ms' ≤ s0) (hst : st.length ≤ 8)
    (hc : am_R mi' post' fr' lo' mc' ms' 0 (am_ent [.ref q, a1, a2, a3] mi'.2.2.1) [] sh I P) (k : ∀ r sh' I' P', post' r sh' I' P' → am_R mi post fr lo (c0 - mc') (s0 - ms') (pc + 3) lv ((r.map Value.int).toList ++ st) sh' I' P') : am_R mi post fr lo c0 s0 pc lv (a3 :: a2 :: a1 :: .ref q :: st) sh I P :=
  am_callV [a1, a2, a3] d hM hi hl hs hci rfl hmx hroom hmc hms hst hc k
theorem r_callS3 {a1 a2 a3 : Value} (d : decode mi.2.1 pc = .ok (.invokestatic idx, 3)) (hM : am_M mi' 3) (hi : Cond.static mi'.1 ∈ am_tb) (hl : Cond.methodLink mi.1.cls idx mi'.1 ∈ am_tb) (hmx : 3 ≤ mi'.2.2.1) (hroom : fr' + 1 ≤ fr ∧ 8 + (mi'.2.2.1 + 11) + lo' ≤ lo) (hmc : mc' ≤ c0) (hms : ms' ≤ s0) (hst : st.length ≤ 8)
    (hc : am_R mi' post' fr' lo' mc' ms' 0 (am_ent [a1, a2, a3] mi'.2.2.1) [] sh I P) (k : ∀ r sh' I' P', post' r sh' I' P' → am_R mi post fr lo (c0 - mc') (s0 - ms') (pc + 3) lv ((r.map Value.int).toList ++ st) sh' I' P') : am_R mi post fr lo c0 s0 pc lv (a3 :: a2 :: a1 :: st) sh I P :=
  am_callS [a1, a2, a3] d hM hi hl rfl hmx hroom hmc hms hst hc k
theorem r_callV4 {a1 a2 a3 a4 : Value} (d : decode mi.2.1 pc = .ok (.invokevirtual idx, 3)) (hM : am_M mi' 4) (hi : Cond.instanceMethod mi'.1 ∈ am_tb ∧ Cond.selects mi'.1.cls mi'.1 mi'.1 ∈ am_tb) (hl : Cond.methodLink mi.1.cls idx mi'.1 ∈ am_tb) (hs : sh q = (1, ci)) (hci : ∃ T N, am_cl[ci]? = some (mi'.1.cls, T, N)) (hmx : 5 ≤ mi'.2.2.1) (hroom : fr' + 1 ≤ fr ∧ 8 + (mi'.2.2.1 + 11) + lo' ≤ lo) (hmc : mc' ≤ c0) (hms : ms' ≤ s0) (hst : st.length ≤ 8)
    (hc : am_R mi' post' fr' lo' mc' ms' 0 (am_ent [.ref q, a1, a2, a3, a4] mi'.2.2.1) [] sh I P) (k : ∀ r sh' I' P', post' r sh' I' P' → am_R mi post fr lo (c0 - mc') (s0 - ms') (pc + 3) lv ((r.map Value.int).toList ++ st) sh' I' P') : am_R mi post fr lo c0 s0 pc lv (a4 :: a3 :: a2 :: a1 :: .ref q :: st) sh I P :=
  am_callV [a1, a2, a3, a4] d hM hi hl hs hci rfl hmx hroom hmc hms hst hc k
theorem r_callS4 {a1 a2 a3 a4 : Value} (d : decode mi.2.1 pc = .ok (.invokestatic idx, 3)) (hM : am_M mi' 4) (hi : Cond.static mi'.1 ∈ am_tb) (hl : Cond.methodLink mi.1.cls idx mi'.1 ∈ am_tb) (hmx : 4 ≤ mi'.2.2.1) (hroom : fr' + 1 ≤ fr ∧ 8 + (mi'.2.2.1 + 11) + lo' ≤ lo) (hmc : mc' ≤ c0) (hms : ms' ≤ s0) (hst : st.length ≤ 8)
    (hc : am_R mi' post' fr' lo' mc' ms' 0 (am_ent [a1, a2, a3, a4] mi'.2.2.1) [] sh I P) (k : ∀ r sh' I' P', post' r sh' I' P' → am_R mi post fr lo (c0 - mc') (s0 - ms') (pc + 3) lv ((r.map Value.int).toList ++ st) sh' I' P') : am_R mi post fr lo c0 s0 pc lv (a4 :: a3 :: a2 :: a1 :: st) sh I P :=
  am_callS [a1, a2, a3, a4] d hM hi hl rfl hmx hroom hmc hms hst hc k
theorem r_callV5 {a1 a2 a3 a4 a5 : Value} (d : decode mi.2.1 pc = .ok (.invokevirtual idx, 3)) (hM : am_M mi' 5) (hi : Cond.instanceMethod mi'.1 ∈ am_tb ∧ Cond.selects mi'.1.cls mi'.1 mi'.1 ∈ am_tb) (hl : Cond.methodLink mi.1.cls idx mi'.1 ∈ am_tb) (hs : sh q = (1, ci)) (hci : ∃ T N, am_cl[ci]? = some (mi'.1.cls, T, N)) (hmx : 6 ≤ mi'.2.2.1) (hroom : fr' + 1 ≤ fr ∧ 8 + (mi'.2.2.1 + 11) + lo' ≤ lo) (hmc : mc' ≤ c0) (hms : ms' ≤ s0) (hst : st.length ≤ 8)
    (hc : am_R mi' post' fr' lo' mc' ms' 0 (am_ent [.ref q, a1, a2, a3, a4, a5] mi'.2.2.1) [] sh I P) (k : ∀ r sh' I' P', post' r sh' I' P' → am_R mi post fr lo (c0 - mc') (s0 - ms') (pc + 3) lv ((r.map Value.int).toList ++ st) sh' I' P') : am_R mi post fr lo c0 s0 pc lv (a5 :: a4 :: a3 :: a2 :: a1 :: .ref q :: st) sh I P :=
  am_callV [a1, a2, a3, a4, a5] d hM hi hl hs hci rfl hmx hroom hmc hms hst hc k
theorem r_callS5 {a1 a2 a3 a4 a5 : Value} (d : decode mi.2.1 pc = .ok (.invokestatic idx, 3)) (hM : am_M mi' 5) (hi : Cond.static mi'.1 ∈ am_tb) (hl : Cond.methodLink mi.1.cls idx mi'.1 ∈ am_tb) (hmx : 5 ≤ mi'.2.2.1) (hroom : fr' + 1 ≤ fr ∧ 8 + (mi'.2.2.1 + 11) + lo' ≤ lo) (hmc : mc' ≤ c0) (hms : ms' ≤ s0) (hst : st.length ≤ 8)
    (hc : am_R mi' post' fr' lo' mc' ms' 0 (am_ent [a1, a2, a3, a4, a5] mi'.2.2.1) [] sh I P) (k : ∀ r sh' I' P', post' r sh' I' P' → am_R mi post fr lo (c0 - mc') (s0 - ms') (pc + 3) lv ((r.map Value.int).toList ++ st) sh' I' P') : am_R mi post fr lo c0 s0 pc lv (a5 :: a4 :: a3 :: a2 :: a1 :: st) sh I P :=
  am_callS [a1, a2, a3, a4, a5] d hM hi hl rfl hmx hroom hmc hms hst hc k
theorem r_callI0 (d : decode mi.2.1 pc = .ok (.invokespecial idx, 3)) (hM : am_M mi' 0) (hret : mi'.2.2.2 = none) (hi : Cond.instanceMethod mi'.1 ∈ am_tb) (hnm2 : mi'.1.name = "<init>") (hl : Cond.methodLink mi.1.cls idx mi'.1 ∈ am_tb) (hmx : 1 ≤ mi'.2.2.1) (hroom : fr' + 1 ≤ fr ∧ 8 + (mi'.2.2.1 + 11) + lo' ≤ lo) (hmc : mc' ≤ c0) (hms : ms' ≤ s0) (hst : st.length ≤ 8)
    (hc : am_R mi' post' fr' lo' mc' ms' 0 (am_ent [.ref q] mi'.2.2.1) [] sh I P) (k : ∀ r sh' I' P', post' r sh' I' P' → am_R mi post fr lo (c0 - mc') (s0 - ms') (pc + 3) lv ((r.map Value.int).toList ++ st) sh' I' P') : am_R mi post fr lo c0 s0 pc lv (.ref q :: st) sh I P :=
  am_callI [] d hM hret hi hnm2 hl rfl hmx hroom hmc hms hst hc k
theorem r_callN0 (d : decode mi.2.1 pc = .ok (.invokespecial idx, 3)) (hM : am_M mi' 0) (hret : mi'.2.2.2 = none) (hi : Cond.instanceMethod mi'.1 ∈ am_tb) (hnm2 : mi'.1.name = "<init>") (host : String) (hl : (mi.1.cls, idx, mi'.1, host) ∈ am_ne) (hmx : 1 ≤ mi'.2.2.1) (hroom : fr' + 1 ≤ fr ∧ 8 + (mi'.2.2.1 + 11) + lo' ≤ lo) (hmc : mc' ≤ c0) (hms : ms' ≤ s0) (hst : st.length ≤ 8)
    (hc : am_R mi' post' fr' lo' mc' ms' 0 (am_ent [.ref q] mi'.2.2.1) [] sh I P) (k : ∀ r sh' I' P', post' r sh' I' P' → am_R mi post fr lo (c0 - mc') (s0 - ms') (pc + 3) lv ((r.map Value.int).toList ++ st) sh' I' P') : am_R mi post fr lo c0 s0 pc lv (.ref q :: st) sh I P :=
  am_callN [] d hM hret hi hnm2 host hl rfl hmx hroom hmc hms hst hc k
/-- a fixed table of sixteen ints, read at an int that lies in the frame -/
theorem r_tab {j : Fin 4} {x : Int32} (w i : Nat) (hw : w < 4) (d1 : decode mi.2.1 pc = .ok (.getstatic idx, 3)) (d2 : decode mi.2.1 (pc + 3) = .ok (.iload_n j, 1)) (d3 : decode mi.2.1 (pc + 4) = .ok (.iaload, 1)) (hl : Cond.fieldLink mi.1.cls idx RX1 (am_sn w) "[I" ∈ am_tb) (h : lv[(j : Nat)]? = some (some (.int x))) (hx : x = nI i) (hi : i < 16) (k : am_R mi post fr lo c0 s0 (pc + 5) lv (.int (am_st w i) :: st) sh I P) : am_R mi post fr lo c0 s0 pc lv st sh I P := by
  intro l p e R s m args below meth c D t A sh0 ad0 ad mc ms H locs cells slots ls C hc0 hs0 X
  obtain ⟨hx0, hb, hml, hr, hown, hts, hlk, hnm, hroom, hN, hA⟩ := id C
  obtain ⟨x1, x2, x3, x4, x5, x6⟩ := X
  subst hx
  obtain ⟨a, hZ, cell, h1, h2, h3, h4, h5, h6, h7⟩ := hN.2.2.2 w hw
  have hcell : H[a]? = some cell := by rw [x3.2.1 a (Array.getElem?_eq_some_iff.mp h1).1 h7]; exact h1
  refine va_gets hx0 hb hZ x3 hown (hts _ hl) (fun _ h9 => h9) d1 ?_
  refine lv_iload_n hx0 hb d2 rfl (x4.2.2.2 _ _ h) ?_
  exact W.iald (v := .int (am_st w i)) hx0 hb hcell h2 h3 (by rw [nI_clamp (by omega)]; intro h9; rcases h9 with h9 | h9; exact nI_pos (by omega) h9; omega) (by rw [nI_clamp (by omega)]; exact h6 i hi) rfl rfl d3
    (k l p e R s m args below meth c D t A sh0 ad0 ad mc ms H locs cells slots ls C hc0 hs0 ⟨x1, x2, x3, x4, am_okc trivial x5, x6⟩)
theorem r_max {x y : Int32} (d : decode mi.2.1 pc = .ok (.invokestatic idx, 3)) (hw : Cond.methodLink mi.1.cls idx Lib.Math.max.name ∈ am_tb ∧ Cond.static Lib.Math.max.name ∈ am_tb ∧ Cond.initialized "java/lang/Math" ∈ am_tb ∧ Cond.code Lib.Math.max.name Lib.Math.max.code 2 (some .int) ∈ am_tb) (hroom : 1 ≤ fr ∧ st.length + 13 ≤ lo) (k : am_R mi post fr lo c0 s0 (pc + 3) lv (.int (if x < y then y else x) :: st) sh I P) : am_R mi post fr lo c0 s0 pc lv (.int y :: .int x :: st) sh I P := by
  intro l p e R s m args below meth c D t A sh0 ad0 ad mc ms H locs cells slots ls C hc0 hs0 X
  obtain ⟨hx0, hb, hml, hr, hown, hts, hlk, hnm, hrm, hN, hA⟩ := id C
  obtain ⟨x1, x2, x3, x4, x5, x6⟩ := X
  have h1 := am_sum ad (am_okt (am_okt x5))
  exact va_mmax hx0 hb (by rw [hml]; exact x4.2.1.symm) hown (hts _ hw.1) (hts _ hw.2.1) (hts _ hw.2.2.1) (hts _ hw.2.2.2) (rest := st.map (cv ad)) (by omega) (by omega) (by omega) (by omega) d
    (k l p e R s m args below meth c D t A sh0 ad0 ad mc ms H locs cells slots ls C hc0 hs0 ⟨x1, x2, x3, x4, am_okc trivial (am_okt (am_okt x5)), x6⟩)
theorem r_copy {q0 q1 n0 n1 : Nat} {x y z : Int32} (sp dp n : Nat) (d : decode mi.2.1 pc = .ok (.invokestatic idx, 3)) (hw : Cond.methodLink mi.1.cls idx arraycopyName ∈ am_tb ∧ Cond.native arraycopyName ∈ am_tb ∧ Cond.static arraycopyName ∈ am_tb ∧ Cond.initialized "java/lang/System" ∈ am_tb) (hs0 : sh q0 = (2, n0)) (hs1 : sh q1 = (2, n1)) (hx : x = nI sp) (hy : y = nI dp) (hz : z = nI n) (h0 : sp + n ≤ n0) (h1 : dp + n ≤ n1) (hn0 : n0 < 2147483648) (hn1 : n1 < 2147483648) (hroom : 1 ≤ fr ∧ st.length + (nativeFrameWords "java/lang/System" "arraycopy" 5 + 11) ≤ lo) (k : am_R mi post fr lo c0 s0 (pc + 3) lv st sh (va_up I q1 (va_cpy (I q0) (I q1) sp dp n)) P) : am_R mi post fr lo c0 s0 pc lv (.int z :: .int y :: .ref q1 :: .int x :: .ref q0 :: st) sh I P := by
  intro l p e R s m args below meth c D t A sh0 ad0 ad mc ms H locs cells slots ls C hc0 hsl0 X
  obtain ⟨hx0, hb, hml, hr, hown, hts, hlk, hnm, hrm, hN, hA⟩ := id C
  obtain ⟨x1, x2, x3, x4, x5, x6⟩ := X
  subst hx hy hz
  have hst2 := am_okt (am_okt (am_okt (am_okt (am_okt x5))))
  have hsum := am_sum ad hst2
  have hsp : (nI sp).toNatClampNeg = sp := nI_clamp (by omega)
  have hdp : (nI dp).toNatClampNeg = dp := nI_clamp (by omega)
  have hnn : (nI n).toNatClampNeg = n := nI_clamp (by omega)
  have hc0' : H[ad q0]? = some (vp_cell (t 0) (n0, .inl (I q0))) := x1.at hs0
  have hc1' : H[ad q1]? = some (vp_cell (t 0) (n1, .inl (I q1))) := x1.at hs1
  intro T hT XS
  obtain ⟨-, k0, hk0, cm0, hkk0⟩ := (hN.1.2 0 _ rfl).1 n0 (fun j => .int (I q0 j))
  obtain ⟨vm', X', step⟩ := XS.arraycopy hx0 hown (hts _ hw.1) (hts _ hw.2.1) (hts _ hw.2.2.1) (hts _ hw.2.2.2) (src := ad q0) (dst := ad q1) (cs := vp_cell (t 0) (n0, .inl (I q0))) (cd := vp_cell (t 0) (n1, .inl (I q1))) (srcPos := nI sp) (destPos := nI dp) (n := nI n) (by rw [hT]; exact hc0') (by rw [hT]; exact hc1')
    (fun _ h => by cases h) (fun _ h => by cases h) (fun h => by cases h) (fun h => by cases h) hk0 hk0 hkk0 hkk0 (by simp [refKind]) (nI_pos (by omega)) (nI_pos (by omega)) (nI_pos (by omega))
    (by rw [nI_toInt (by omega), nI_toInt (by omega)]; show ¬ _ > ((arrV (t 0) n0 (fun j => .int (I q0 j))).slots.size : Int); rw [arrV_size]; omega)
    (by rw [nI_toInt (by omega), nI_toInt (by omega)]; show ¬ _ > ((arrV (t 0) n1 (fun j => .int (I q1 j))).slots.size : Int); rw [arrV_size]; omega)
    (fun vm₁ _ i hi => by
      rw [hnn] at hi
      have e : (vp_cell (t 0) (n0, .inl (I q0))).slots.getD ((nI sp).toNatClampNeg + i) .null = .int (I q0 ((nI sp).toNatClampNeg + i)) := by
        show (arrV (t 0) n0 (fun j => .int (I q0 j))).slots.getD _ _ = _
        rw [Array.getD_eq_getD_getElem?, arrV_read _ _ (by rw [hsp]; omega)]
        rfl
      refine ⟨?_, ?_⟩
      · rw [e]
        rfl
      · rw [e]
        exact trivial)
    (g := F0 m pc ls (.int (nI n) :: .int (nI dp) :: .ref (ad q1) :: .int (nI sp) :: .ref (ad q0) :: st.map (cv ad))) rfl (by rw [hml]; exact x4.2.1) (rest := st.map (cv ad)) rfl (by rw [hb]; exact d) (by omega) (by show 2 * 0 + _ + _ ≤ _; omega)
  have e1 : copied (vp_cell (t 0) (n0, .inl (I q0))) (vp_cell (t 0) (n1, .inl (I q1))) (nI sp) (nI dp) (nI n) = vp_cell (t 0) (n1, .inl (va_cpy (I q0) (I q1) (nI sp).toNatClampNeg (nI dp).toNatClampNeg (nI n).toNatClampNeg)) := va_copied (fun z => .int z) (t 0) (t 0) (I q0) (I q1) (by rw [hsp, hnn]; exact h0)
  rw [e1, hsp, hdp, hnn] at X' step
  have hl : ad q1 < H.size := (Array.getElem?_eq_some_iff.mp hc1').1
  have hheap : ((T.setVm vm').setCell (ad q1) (vp_cell (t 0) (n1, .inl (va_cpy (I q0) (I q1) sp dp n)))).heap = H.setIfInBounds (ad q1) (vp_cell (t 0) (n1, .inl (va_cpy (I q0) (I q1) sp dp n))) := by rw [← hT]; rfl
  have oq : ∀ a : Nat, a ≠ ad q1 → (H.setIfInBounds (ad q1) (vp_cell (t 0) (n1, .inl (va_cpy (I q0) (I q1) sp dp n))))[a]? = H[a]? := fun a ha => by simp [Array.getElem?_setIfInBounds, Ne.symm ha]
  have hq1 : (sh q1).1 ≠ 0 := by rw [hs1]; exact Nat.succ_ne_zero _
  obtain ⟨u, a1, b1⟩ := k l p e R s m args below meth c D t A sh0 ad0 ad mc ms _ _ cells slots ls C hc0 hsl0 ⟨x1.setI hq1 (by rw [hs1]; show (H.setIfInBounds (ad q1) _)[ad q1]? = some _; simp only [Array.getElem?_setIfInBounds, hl]; rfl) oq, x2, ⟨by simp; exact x3.1, fun a g1 g2 => by
      rw [oq a (fun e => g2 (by rw [e]; exact x1.1 q1 hq1))]
      exact x3.2.1 a g1 g2, fun a ha => by
      rcases List.mem_append.mp ha with h | h
      · exact x3.2.2 a h
      · obtain ⟨z, -, hz⟩ := List.mem_map.mp h
        rw [← hz]
        exact x1.1 q1 hq1⟩, x4, hst2, x6⟩ _ hheap X'
  exact ⟨u, step u a1, b1⟩
end AMV
end
