-- ===== PART A: goes FIRST, ahead of the names: the tables' words, and 'selects' of the private methods out of them =====
/-- a private method of a class that the tables say can be made, by its rows of tables_1 -/
def lw_okq (q : MethodName × Nat) : Prop := (q.1.cls ≠ "java/lang/invoke/MethodHandle" ∧ q.1.cls ≠ "java/lang/invoke/VarHandle") ∧ Cond.instantiable q.1.cls q.2 ∈ tables_1 ∧ Cond.privateMethod q.1 ∈ tables_1 ∧ Cond.instanceMethod q.1 ∈ tables_1
theorem lw_p0 : lw_okq (⟨"HomeDrives", "found", "(I)I"⟩, 10) := ⟨⟨by decide +kernel, by decide +kernel⟩, List.mem_of_getElem? (i := 19) (by decide +kernel), List.mem_of_getElem? (i := 304) (by decide +kernel), List.mem_of_getElem? (i := 305) (by decide +kernel)⟩
theorem lw_p1 : lw_okq (⟨"HomeDrives", "fine", "(I)I"⟩, 10) := ⟨⟨by decide +kernel, by decide +kernel⟩, List.mem_of_getElem? (i := 19) (by decide +kernel), List.mem_of_getElem? (i := 316) (by decide +kernel), List.mem_of_getElem? (i := 317) (by decide +kernel)⟩
theorem lw_p2 : lw_okq (⟨"HomeDrives$Reader", "readLaw", "(LHomeDrives$Evening;)Z"⟩, 9) := ⟨⟨by decide +kernel, by decide +kernel⟩, List.mem_of_getElem? (i := 46) (by decide +kernel), List.mem_of_getElem? (i := 385) (by decide +kernel), List.mem_of_getElem? (i := 386) (by decide +kernel)⟩
theorem lw_p3 : lw_okq (⟨"HomeDrives$Reader", "readToken", "()V"⟩, 9) := ⟨⟨by decide +kernel, by decide +kernel⟩, List.mem_of_getElem? (i := 46) (by decide +kernel), List.mem_of_getElem? (i := 389) (by decide +kernel), List.mem_of_getElem? (i := 390) (by decide +kernel)⟩
theorem lw_p4 : lw_okq (⟨"HomeDrives$Reader", "readLetters", "()V"⟩, 9) := ⟨⟨by decide +kernel, by decide +kernel⟩, List.mem_of_getElem? (i := 46) (by decide +kernel), List.mem_of_getElem? (i := 399) (by decide +kernel), List.mem_of_getElem? (i := 400) (by decide +kernel)⟩
theorem lw_p5 : lw_okq (⟨"HomeDrives$Reader", "readFigures", "()V"⟩, 9) := ⟨⟨by decide +kernel, by decide +kernel⟩, List.mem_of_getElem? (i := 46) (by decide +kernel), List.mem_of_getElem? (i := 406) (by decide +kernel), List.mem_of_getElem? (i := 407) (by decide +kernel)⟩
theorem lw_p6 : lw_okq (⟨"HomeDrives$Reader", "isWord", "(Ljava/lang/String;)Z"⟩, 9) := ⟨⟨by decide +kernel, by decide +kernel⟩, List.mem_of_getElem? (i := 46) (by decide +kernel), List.mem_of_getElem? (i := 411) (by decide +kernel), List.mem_of_getElem? (i := 412) (by decide +kernel)⟩
theorem lw_p7 : lw_okq (⟨"HomeDrives$Reader", "fail", "(I)Z"⟩, 9) := ⟨⟨by decide +kernel, by decide +kernel⟩, List.mem_of_getElem? (i := 46) (by decide +kernel), List.mem_of_getElem? (i := 463) (by decide +kernel), List.mem_of_getElem? (i := 464) (by decide +kernel)⟩
theorem lw_p8 : lw_okq (⟨"HomeDrives$Reader", "readNumber", "(II)Z"⟩, 9) := ⟨⟨by decide +kernel, by decide +kernel⟩, List.mem_of_getElem? (i := 46) (by decide +kernel), List.mem_of_getElem? (i := 467) (by decide +kernel), List.mem_of_getElem? (i := 468) (by decide +kernel)⟩
theorem lw_p9 : lw_okq (⟨"HomeDrives$Reader", "readSign", "()Z"⟩, 9) := ⟨⟨by decide +kernel, by decide +kernel⟩, List.mem_of_getElem? (i := 46) (by decide +kernel), List.mem_of_getElem? (i := 471) (by decide +kernel), List.mem_of_getElem? (i := 472) (by decide +kernel)⟩
theorem lw_p10 : lw_okq (⟨"HomeDrives$Reader", "readStatement", "(LHomeDrives$Evening;)Z"⟩, 9) := ⟨⟨by decide +kernel, by decide +kernel⟩, List.mem_of_getElem? (i := 46) (by decide +kernel), List.mem_of_getElem? (i := 475) (by decide +kernel), List.mem_of_getElem? (i := 476) (by decide +kernel)⟩
theorem lw_p11 : lw_okq (⟨"HomeDrives$Reader", "statementWord", "()I"⟩, 9) := ⟨⟨by decide +kernel, by decide +kernel⟩, List.mem_of_getElem? (i := 46) (by decide +kernel), List.mem_of_getElem? (i := 479) (by decide +kernel), List.mem_of_getElem? (i := 480) (by decide +kernel)⟩
theorem lw_p12 : lw_okq (⟨"HomeDrives$Reader", "readWay", "(LHomeDrives$Evening;)Z"⟩, 9) := ⟨⟨by decide +kernel, by decide +kernel⟩, List.mem_of_getElem? (i := 46) (by decide +kernel), List.mem_of_getElem? (i := 488) (by decide +kernel), List.mem_of_getElem? (i := 489) (by decide +kernel)⟩
theorem lw_p13 : lw_okq (⟨"HomeDrives$Reader", "readHill", "(LHomeDrives$Evening;)Z"⟩, 9) := ⟨⟨by decide +kernel, by decide +kernel⟩, List.mem_of_getElem? (i := 46) (by decide +kernel), List.mem_of_getElem? (i := 503) (by decide +kernel), List.mem_of_getElem? (i := 504) (by decide +kernel)⟩
theorem lw_p14 : lw_okq (⟨"HomeDrives$Reader", "readPerson", "(LHomeDrives$Evening;)Z"⟩, 9) := ⟨⟨by decide +kernel, by decide +kernel⟩, List.mem_of_getElem? (i := 46) (by decide +kernel), List.mem_of_getElem? (i := 511) (by decide +kernel), List.mem_of_getElem? (i := 512) (by decide +kernel)⟩
theorem lw_p15 : lw_okq (⟨"HomeDrives$Reader", "kindWord", "()I"⟩, 9) := ⟨⟨by decide +kernel, by decide +kernel⟩, List.mem_of_getElem? (i := 46) (by decide +kernel), List.mem_of_getElem? (i := 515) (by decide +kernel), List.mem_of_getElem? (i := 516) (by decide +kernel)⟩
def lw_privs_1 : List (MethodName × Nat) := [(⟨"HomeDrives", "found", "(I)I"⟩, 10), (⟨"HomeDrives", "fine", "(I)I"⟩, 10), (⟨"HomeDrives$Reader", "readLaw", "(LHomeDrives$Evening;)Z"⟩, 9), (⟨"HomeDrives$Reader", "readToken", "()V"⟩, 9), (⟨"HomeDrives$Reader", "readLetters", "()V"⟩, 9), (⟨"HomeDrives$Reader", "readFigures", "()V"⟩, 9), (⟨"HomeDrives$Reader", "isWord", "(Ljava/lang/String;)Z"⟩, 9), (⟨"HomeDrives$Reader", "fail", "(I)Z"⟩, 9), (⟨"HomeDrives$Reader", "readNumber", "(II)Z"⟩, 9), (⟨"HomeDrives$Reader", "readSign", "()Z"⟩, 9), (⟨"HomeDrives$Reader", "readStatement", "(LHomeDrives$Evening;)Z"⟩, 9), (⟨"HomeDrives$Reader", "statementWord", "()I"⟩, 9), (⟨"HomeDrives$Reader", "readWay", "(LHomeDrives$Evening;)Z"⟩, 9), (⟨"HomeDrives$Reader", "readHill", "(LHomeDrives$Evening;)Z"⟩, 9), (⟨"HomeDrives$Reader", "readPerson", "(LHomeDrives$Evening;)Z"⟩, 9), (⟨"HomeDrives$Reader", "kindWord", "()I"⟩, 9)]
theorem lw_r1 : ∀ q ∈ lw_privs_1, lw_okq q := List.forall_mem_cons.mpr ⟨lw_p0, List.forall_mem_cons.mpr ⟨lw_p1, List.forall_mem_cons.mpr ⟨lw_p2, List.forall_mem_cons.mpr ⟨lw_p3, List.forall_mem_cons.mpr ⟨lw_p4, List.forall_mem_cons.mpr ⟨lw_p5, List.forall_mem_cons.mpr ⟨lw_p6, List.forall_mem_cons.mpr ⟨lw_p7, List.forall_mem_cons.mpr ⟨lw_p8, List.forall_mem_cons.mpr ⟨lw_p9, List.forall_mem_cons.mpr ⟨lw_p10, List.forall_mem_cons.mpr ⟨lw_p11, List.forall_mem_cons.mpr ⟨lw_p12, List.forall_mem_cons.mpr ⟨lw_p13, List.forall_mem_cons.mpr ⟨lw_p14, List.forall_mem_cons.mpr ⟨lw_p15, fun _ h => absurd h List.not_mem_nil⟩⟩⟩⟩⟩⟩⟩⟩⟩⟩⟩⟩⟩⟩⟩⟩
theorem lw_p16 : lw_okq (⟨"HomeDrives$Reader", "readCar", "(LHomeDrives$Evening;)Z"⟩, 9) := ⟨⟨by decide +kernel, by decide +kernel⟩, List.mem_of_getElem? (i := 46) (by decide +kernel), List.mem_of_getElem? (i := 533) (by decide +kernel), List.mem_of_getElem? (i := 534) (by decide +kernel)⟩
theorem lw_p17 : lw_okq (⟨"HomeDrives$Reader", "readQuarrel", "(LHomeDrives$Evening;)Z"⟩, 9) := ⟨⟨by decide +kernel, by decide +kernel⟩, List.mem_of_getElem? (i := 46) (by decide +kernel), List.mem_of_getElem? (i := 547) (by decide +kernel), List.mem_of_getElem? (i := 548) (by decide +kernel)⟩
theorem lw_p18 : lw_okq (⟨"HomeDrives", "beginAnew", "()V"⟩, 10) := ⟨⟨by decide +kernel, by decide +kernel⟩, List.mem_of_getElem? (i := 19) (by decide +kernel), List.mem_of_getElem? (i := 560) (by decide +kernel), List.mem_of_getElem? (i := 561) (by decide +kernel)⟩
theorem lw_p19 : lw_okq (⟨"HomeDrives$Planner", "seat", "(LHomeDrives$Evening;II)V"⟩, 12) := ⟨⟨by decide +kernel, by decide +kernel⟩, List.mem_of_getElem? (i := 190) (by decide +kernel), List.mem_of_getElem? (i := 679) (by decide +kernel), List.mem_of_getElem? (i := 680) (by decide +kernel)⟩
theorem lw_p20 : lw_okq (⟨"HomeDrives$Planner", "keepIfBetter", "(LHomeDrives$Evening;I)V"⟩, 12) := ⟨⟨by decide +kernel, by decide +kernel⟩, List.mem_of_getElem? (i := 190) (by decide +kernel), List.mem_of_getElem? (i := 689) (by decide +kernel), List.mem_of_getElem? (i := 690) (by decide +kernel)⟩
theorem lw_p21 : lw_okq (⟨"HomeDrives$Planner", "walk", "(LHomeDrives$Evening;IIIII)V"⟩, 12) := ⟨⟨by decide +kernel, by decide +kernel⟩, List.mem_of_getElem? (i := 190) (by decide +kernel), List.mem_of_getElem? (i := 702) (by decide +kernel), List.mem_of_getElem? (i := 703) (by decide +kernel)⟩
theorem lw_p22 : lw_okq (⟨"HomeDrives$Evening", "peopleWhoDriveOnSunday", "()I"⟩, 18) := ⟨⟨by decide +kernel, by decide +kernel⟩, List.mem_of_getElem? (i := 85) (by decide +kernel), List.mem_of_getElem? (i := 741) (by decide +kernel), List.mem_of_getElem? (i := 742) (by decide +kernel)⟩
theorem lw_p23 : lw_okq (⟨"HomeDrives$Asks", "begin", "(LHomeDrives$Evening;III)I"⟩, 2) := ⟨⟨by decide +kernel, by decide +kernel⟩, List.mem_of_getElem? (i := 250) (by decide +kernel), List.mem_of_getElem? (i := 832) (by decide +kernel), List.mem_of_getElem? (i := 833) (by decide +kernel)⟩
theorem lw_p24 : lw_okq (⟨"HomeDrives$Asks", "leave", "(I)V"⟩, 2) := ⟨⟨by decide +kernel, by decide +kernel⟩, List.mem_of_getElem? (i := 250) (by decide +kernel), List.mem_of_getElem? (i := 836) (by decide +kernel), List.mem_of_getElem? (i := 837) (by decide +kernel)⟩
theorem lw_p25 : lw_okq (⟨"HomeDrivesModel", "finding", "(I)I"⟩, 37) := ⟨⟨by decide +kernel, by decide +kernel⟩, List.mem_of_getElem? (i := 862) (by decide +kernel), List.mem_of_getElem? (i := 994) (by decide +kernel), List.mem_of_getElem? (i := 995) (by decide +kernel)⟩
theorem lw_p26 : lw_okq (⟨"HomeDrivesModel", "begin", "()V"⟩, 37) := ⟨⟨by decide +kernel, by decide +kernel⟩, List.mem_of_getElem? (i := 862) (by decide +kernel), List.mem_of_getElem? (i := 1022) (by decide +kernel), List.mem_of_getElem? (i := 1023) (by decide +kernel)⟩
theorem lw_p27 : lw_okq (⟨"HomeDrivesModel", "next", "()V"⟩, 37) := ⟨⟨by decide +kernel, by decide +kernel⟩, List.mem_of_getElem? (i := 862) (by decide +kernel), List.mem_of_getElem? (i := 1026) (by decide +kernel), List.mem_of_getElem? (i := 1027) (by decide +kernel)⟩
theorem lw_p28 : lw_okq (⟨"HomeDrivesModel", "byteAt", "(I)I"⟩, 37) := ⟨⟨by decide +kernel, by decide +kernel⟩, List.mem_of_getElem? (i := 862) (by decide +kernel), List.mem_of_getElem? (i := 1030) (by decide +kernel), List.mem_of_getElem? (i := 1031) (by decide +kernel)⟩
theorem lw_p29 : lw_okq (⟨"HomeDrivesModel", "name", "()J"⟩, 37) := ⟨⟨by decide +kernel, by decide +kernel⟩, List.mem_of_getElem? (i := 862) (by decide +kernel), List.mem_of_getElem? (i := 1041) (by decide +kernel), List.mem_of_getElem? (i := 1042) (by decide +kernel)⟩
theorem lw_p30 : lw_okq (⟨"HomeDrivesModel", "must", "(Z)V"⟩, 37) := ⟨⟨by decide +kernel, by decide +kernel⟩, List.mem_of_getElem? (i := 862) (by decide +kernel), List.mem_of_getElem? (i := 1046) (by decide +kernel), List.mem_of_getElem? (i := 1047) (by decide +kernel)⟩
theorem lw_p31 : lw_okq (⟨"HomeDrivesModel", "bad", "(I)V"⟩, 37) := ⟨⟨by decide +kernel, by decide +kernel⟩, List.mem_of_getElem? (i := 862) (by decide +kernel), List.mem_of_getElem? (i := 1050) (by decide +kernel), List.mem_of_getElem? (i := 1051) (by decide +kernel)⟩
def lw_privs_2 : List (MethodName × Nat) := [(⟨"HomeDrives$Reader", "readCar", "(LHomeDrives$Evening;)Z"⟩, 9), (⟨"HomeDrives$Reader", "readQuarrel", "(LHomeDrives$Evening;)Z"⟩, 9), (⟨"HomeDrives", "beginAnew", "()V"⟩, 10), (⟨"HomeDrives$Planner", "seat", "(LHomeDrives$Evening;II)V"⟩, 12), (⟨"HomeDrives$Planner", "keepIfBetter", "(LHomeDrives$Evening;I)V"⟩, 12), (⟨"HomeDrives$Planner", "walk", "(LHomeDrives$Evening;IIIII)V"⟩, 12), (⟨"HomeDrives$Evening", "peopleWhoDriveOnSunday", "()I"⟩, 18), (⟨"HomeDrives$Asks", "begin", "(LHomeDrives$Evening;III)I"⟩, 2), (⟨"HomeDrives$Asks", "leave", "(I)V"⟩, 2), (⟨"HomeDrivesModel", "finding", "(I)I"⟩, 37), (⟨"HomeDrivesModel", "begin", "()V"⟩, 37), (⟨"HomeDrivesModel", "next", "()V"⟩, 37), (⟨"HomeDrivesModel", "byteAt", "(I)I"⟩, 37), (⟨"HomeDrivesModel", "name", "()J"⟩, 37), (⟨"HomeDrivesModel", "must", "(Z)V"⟩, 37), (⟨"HomeDrivesModel", "bad", "(I)V"⟩, 37)]
theorem lw_r2 : ∀ q ∈ lw_privs_2, lw_okq q := List.forall_mem_cons.mpr ⟨lw_p16, List.forall_mem_cons.mpr ⟨lw_p17, List.forall_mem_cons.mpr ⟨lw_p18, List.forall_mem_cons.mpr ⟨lw_p19, List.forall_mem_cons.mpr ⟨lw_p20, List.forall_mem_cons.mpr ⟨lw_p21, List.forall_mem_cons.mpr ⟨lw_p22, List.forall_mem_cons.mpr ⟨lw_p23, List.forall_mem_cons.mpr ⟨lw_p24, List.forall_mem_cons.mpr ⟨lw_p25, List.forall_mem_cons.mpr ⟨lw_p26, List.forall_mem_cons.mpr ⟨lw_p27, List.forall_mem_cons.mpr ⟨lw_p28, List.forall_mem_cons.mpr ⟨lw_p29, List.forall_mem_cons.mpr ⟨lw_p30, List.forall_mem_cons.mpr ⟨lw_p31, fun _ h => absurd h List.not_mem_nil⟩⟩⟩⟩⟩⟩⟩⟩⟩⟩⟩⟩⟩⟩⟩⟩
theorem lw_p32 : lw_okq (⟨"HomeDrivesModel", "number", "(II)I"⟩, 37) := ⟨⟨by decide +kernel, by decide +kernel⟩, List.mem_of_getElem? (i := 862) (by decide +kernel), List.mem_of_getElem? (i := 1054) (by decide +kernel), List.mem_of_getElem? (i := 1055) (by decide +kernel)⟩
theorem lw_p33 : lw_okq (⟨"HomeDrivesModel", "figures", "()I"⟩, 37) := ⟨⟨by decide +kernel, by decide +kernel⟩, List.mem_of_getElem? (i := 862) (by decide +kernel), List.mem_of_getElem? (i := 1058) (by decide +kernel), List.mem_of_getElem? (i := 1059) (by decide +kernel)⟩
theorem lw_p34 : lw_okq (⟨"HomeDrivesModel", "mustEnd", "()V"⟩, 37) := ⟨⟨by decide +kernel, by decide +kernel⟩, List.mem_of_getElem? (i := 862) (by decide +kernel), List.mem_of_getElem? (i := 1062) (by decide +kernel), List.mem_of_getElem? (i := 1063) (by decide +kernel)⟩
theorem lw_p35 : lw_okq (⟨"HomeDrivesModel", "readWay", "()V"⟩, 37) := ⟨⟨by decide +kernel, by decide +kernel⟩, List.mem_of_getElem? (i := 862) (by decide +kernel), List.mem_of_getElem? (i := 1067) (by decide +kernel), List.mem_of_getElem? (i := 1068) (by decide +kernel)⟩
theorem lw_p36 : lw_okq (⟨"HomeDrivesModel", "begins", "(II)V"⟩, 37) := ⟨⟨by decide +kernel, by decide +kernel⟩, List.mem_of_getElem? (i := 862) (by decide +kernel), List.mem_of_getElem? (i := 1071) (by decide +kernel), List.mem_of_getElem? (i := 1072) (by decide +kernel)⟩
theorem lw_p37 : lw_okq (⟨"HomeDrivesModel", "unlike", "(III)I"⟩, 37) := ⟨⟨by decide +kernel, by decide +kernel⟩, List.mem_of_getElem? (i := 862) (by decide +kernel), List.mem_of_getElem? (i := 1075) (by decide +kernel), List.mem_of_getElem? (i := 1076) (by decide +kernel)⟩
theorem lw_p38 : lw_okq (⟨"HomeDrivesModel", "readHill", "()V"⟩, 37) := ⟨⟨by decide +kernel, by decide +kernel⟩, List.mem_of_getElem? (i := 862) (by decide +kernel), List.mem_of_getElem? (i := 1080) (by decide +kernel), List.mem_of_getElem? (i := 1081) (by decide +kernel)⟩
theorem lw_p39 : lw_okq (⟨"HomeDrivesModel", "readPerson", "()V"⟩, 37) := ⟨⟨by decide +kernel, by decide +kernel⟩, List.mem_of_getElem? (i := 862) (by decide +kernel), List.mem_of_getElem? (i := 1085) (by decide +kernel), List.mem_of_getElem? (i := 1086) (by decide +kernel)⟩
theorem lw_p40 : lw_okq (⟨"HomeDrivesModel", "readCar", "()V"⟩, 37) := ⟨⟨by decide +kernel, by decide +kernel⟩, List.mem_of_getElem? (i := 862) (by decide +kernel), List.mem_of_getElem? (i := 1098) (by decide +kernel), List.mem_of_getElem? (i := 1099) (by decide +kernel)⟩
theorem lw_p41 : lw_okq (⟨"HomeDrivesModel", "isOwner", "(I)Z"⟩, 37) := ⟨⟨by decide +kernel, by decide +kernel⟩, List.mem_of_getElem? (i := 862) (by decide +kernel), List.mem_of_getElem? (i := 1102) (by decide +kernel), List.mem_of_getElem? (i := 1103) (by decide +kernel)⟩
theorem lw_p42 : lw_okq (⟨"HomeDrivesModel", "readQuarrel", "()V"⟩, 37) := ⟨⟨by decide +kernel, by decide +kernel⟩, List.mem_of_getElem? (i := 862) (by decide +kernel), List.mem_of_getElem? (i := 1107) (by decide +kernel), List.mem_of_getElem? (i := 1108) (by decide +kernel)⟩
theorem lw_p43 : lw_okq (⟨"HomeDrivesModel", "layFar", "()V"⟩, 37) := ⟨⟨by decide +kernel, by decide +kernel⟩, List.mem_of_getElem? (i := 862) (by decide +kernel), List.mem_of_getElem? (i := 1112) (by decide +kernel), List.mem_of_getElem? (i := 1113) (by decide +kernel)⟩
theorem lw_p44 : lw_okq (⟨"HomeDrivesModel", "isPerson", "(I)Z"⟩, 37) := ⟨⟨by decide +kernel, by decide +kernel⟩, List.mem_of_getElem? (i := 862) (by decide +kernel), List.mem_of_getElem? (i := 1124) (by decide +kernel), List.mem_of_getElem? (i := 1125) (by decide +kernel)⟩
theorem lw_p45 : lw_okq (⟨"HomeDrivesModel", "of", "(II)I"⟩, 37) := ⟨⟨by decide +kernel, by decide +kernel⟩, List.mem_of_getElem? (i := 862) (by decide +kernel), List.mem_of_getElem? (i := 1129) (by decide +kernel), List.mem_of_getElem? (i := 1130) (by decide +kernel)⟩
theorem lw_p46 : lw_okq (⟨"HomeDrivesModel", "carOf", "(I)I"⟩, 37) := ⟨⟨by decide +kernel, by decide +kernel⟩, List.mem_of_getElem? (i := 862) (by decide +kernel), List.mem_of_getElem? (i := 1143) (by decide +kernel), List.mem_of_getElem? (i := 1144) (by decide +kernel)⟩
theorem lw_p47 : lw_okq (⟨"HomeDrivesModel", "car0", "(II)I"⟩, 37) := ⟨⟨by decide +kernel, by decide +kernel⟩, List.mem_of_getElem? (i := 862) (by decide +kernel), List.mem_of_getElem? (i := 1147) (by decide +kernel), List.mem_of_getElem? (i := 1148) (by decide +kernel)⟩
def lw_privs_3 : List (MethodName × Nat) := [(⟨"HomeDrivesModel", "number", "(II)I"⟩, 37), (⟨"HomeDrivesModel", "figures", "()I"⟩, 37), (⟨"HomeDrivesModel", "mustEnd", "()V"⟩, 37), (⟨"HomeDrivesModel", "readWay", "()V"⟩, 37), (⟨"HomeDrivesModel", "begins", "(II)V"⟩, 37), (⟨"HomeDrivesModel", "unlike", "(III)I"⟩, 37), (⟨"HomeDrivesModel", "readHill", "()V"⟩, 37), (⟨"HomeDrivesModel", "readPerson", "()V"⟩, 37), (⟨"HomeDrivesModel", "readCar", "()V"⟩, 37), (⟨"HomeDrivesModel", "isOwner", "(I)Z"⟩, 37), (⟨"HomeDrivesModel", "readQuarrel", "()V"⟩, 37), (⟨"HomeDrivesModel", "layFar", "()V"⟩, 37), (⟨"HomeDrivesModel", "isPerson", "(I)Z"⟩, 37), (⟨"HomeDrivesModel", "of", "(II)I"⟩, 37), (⟨"HomeDrivesModel", "carOf", "(I)I"⟩, 37), (⟨"HomeDrivesModel", "car0", "(II)I"⟩, 37)]
theorem lw_r3 : ∀ q ∈ lw_privs_3, lw_okq q := List.forall_mem_cons.mpr ⟨lw_p32, List.forall_mem_cons.mpr ⟨lw_p33, List.forall_mem_cons.mpr ⟨lw_p34, List.forall_mem_cons.mpr ⟨lw_p35, List.forall_mem_cons.mpr ⟨lw_p36, List.forall_mem_cons.mpr ⟨lw_p37, List.forall_mem_cons.mpr ⟨lw_p38, List.forall_mem_cons.mpr ⟨lw_p39, List.forall_mem_cons.mpr ⟨lw_p40, List.forall_mem_cons.mpr ⟨lw_p41, List.forall_mem_cons.mpr ⟨lw_p42, List.forall_mem_cons.mpr ⟨lw_p43, List.forall_mem_cons.mpr ⟨lw_p44, List.forall_mem_cons.mpr ⟨lw_p45, List.forall_mem_cons.mpr ⟨lw_p46, List.forall_mem_cons.mpr ⟨lw_p47, fun _ h => absurd h List.not_mem_nil⟩⟩⟩⟩⟩⟩⟩⟩⟩⟩⟩⟩⟩⟩⟩⟩
theorem lw_p48 : lw_okq (⟨"HomeDrivesModel", "isCar", "(I)Z"⟩, 37) := ⟨⟨by decide +kernel, by decide +kernel⟩, List.mem_of_getElem? (i := 862) (by decide +kernel), List.mem_of_getElem? (i := 1155) (by decide +kernel), List.mem_of_getElem? (i := 1156) (by decide +kernel)⟩
theorem lw_p49 : lw_okq (⟨"HomeDrivesModel", "farOf", "(II)I"⟩, 37) := ⟨⟨by decide +kernel, by decide +kernel⟩, List.mem_of_getElem? (i := 862) (by decide +kernel), List.mem_of_getElem? (i := 1163) (by decide +kernel), List.mem_of_getElem? (i := 1164) (by decide +kernel)⟩
theorem lw_p50 : lw_okq (⟨"HomeDrivesModel", "drunk", "(II)I"⟩, 37) := ⟨⟨by decide +kernel, by decide +kernel⟩, List.mem_of_getElem? (i := 862) (by decide +kernel), List.mem_of_getElem? (i := 1175) (by decide +kernel), List.mem_of_getElem? (i := 1176) (by decide +kernel)⟩
theorem lw_p51 : lw_okq (⟨"HomeDrivesModel", "mayDrive", "(III)Z"⟩, 37) := ⟨⟨by decide +kernel, by decide +kernel⟩, List.mem_of_getElem? (i := 862) (by decide +kernel), List.mem_of_getElem? (i := 1179) (by decide +kernel), List.mem_of_getElem? (i := 1180) (by decide +kernel)⟩
theorem lw_p52 : lw_okq (⟨"HomeDrivesModel", "goingAt", "(I)I"⟩, 37) := ⟨⟨by decide +kernel, by decide +kernel⟩, List.mem_of_getElem? (i := 862) (by decide +kernel), List.mem_of_getElem? (i := 1198) (by decide +kernel), List.mem_of_getElem? (i := 1199) (by decide +kernel)⟩
theorem lw_p53 : lw_okq (⟨"HomeDrivesModel", "doesGo", "(II)Z"⟩, 37) := ⟨⟨by decide +kernel, by decide +kernel⟩, List.mem_of_getElem? (i := 862) (by decide +kernel), List.mem_of_getElem? (i := 1202) (by decide +kernel), List.mem_of_getElem? (i := 1203) (by decide +kernel)⟩
theorem lw_p54 : lw_okq (⟨"HomeDrivesModel", "isOnHill", "(I)Z"⟩, 37) := ⟨⟨by decide +kernel, by decide +kernel⟩, List.mem_of_getElem? (i := 862) (by decide +kernel), List.mem_of_getElem? (i := 1206) (by decide +kernel), List.mem_of_getElem? (i := 1207) (by decide +kernel)⟩
theorem lw_p55 : lw_okq (⟨"HomeDrivesModel", "layHome", "(I)V"⟩, 37) := ⟨⟨by decide +kernel, by decide +kernel⟩, List.mem_of_getElem? (i := 862) (by decide +kernel), List.mem_of_getElem? (i := 1214) (by decide +kernel), List.mem_of_getElem? (i := 1215) (by decide +kernel)⟩
theorem lw_p56 : lw_okq (⟨"HomeDrivesModel", "layRiders", "()V"⟩, 37) := ⟨⟨by decide +kernel, by decide +kernel⟩, List.mem_of_getElem? (i := 862) (by decide +kernel), List.mem_of_getElem? (i := 1218) (by decide +kernel), List.mem_of_getElem? (i := 1219) (by decide +kernel)⟩
theorem lw_p57 : lw_okq (⟨"HomeDrivesModel", "layTakes", "()V"⟩, 37) := ⟨⟨by decide +kernel, by decide +kernel⟩, List.mem_of_getElem? (i := 862) (by decide +kernel), List.mem_of_getElem? (i := 1222) (by decide +kernel), List.mem_of_getElem? (i := 1223) (by decide +kernel)⟩
theorem lw_p58 : lw_okq (⟨"HomeDrivesModel", "fits", "(II)Z"⟩, 37) := ⟨⟨by decide +kernel, by decide +kernel⟩, List.mem_of_getElem? (i := 862) (by decide +kernel), List.mem_of_getElem? (i := 1226) (by decide +kernel), List.mem_of_getElem? (i := 1227) (by decide +kernel)⟩
theorem lw_p59 : lw_okq (⟨"HomeDrivesModel", "leastOf", "(II)I"⟩, 37) := ⟨⟨by decide +kernel, by decide +kernel⟩, List.mem_of_getElem? (i := 862) (by decide +kernel), List.mem_of_getElem? (i := 1233) (by decide +kernel), List.mem_of_getElem? (i := 1234) (by decide +kernel)⟩
theorem lw_p60 : lw_okq (⟨"HomeDrivesModel", "layTried", "(II)Z"⟩, 37) := ⟨⟨by decide +kernel, by decide +kernel⟩, List.mem_of_getElem? (i := 862) (by decide +kernel), List.mem_of_getElem? (i := 1237) (by decide +kernel), List.mem_of_getElem? (i := 1238) (by decide +kernel)⟩
theorem lw_p61 : lw_okq (⟨"HomeDrivesModel", "minutesBy", "(II)I"⟩, 37) := ⟨⟨by decide +kernel, by decide +kernel⟩, List.mem_of_getElem? (i := 862) (by decide +kernel), List.mem_of_getElem? (i := 1241) (by decide +kernel), List.mem_of_getElem? (i := 1242) (by decide +kernel)⟩
theorem lw_p62 : lw_okq (⟨"HomeDrivesModel", "layRow", "(I)V"⟩, 37) := ⟨⟨by decide +kernel, by decide +kernel⟩, List.mem_of_getElem? (i := 862) (by decide +kernel), List.mem_of_getElem? (i := 1245) (by decide +kernel), List.mem_of_getElem? (i := 1246) (by decide +kernel)⟩
theorem lw_p63 : lw_okq (⟨"HomeDrivesModel", "sumOf", "()I"⟩, 37) := ⟨⟨by decide +kernel, by decide +kernel⟩, List.mem_of_getElem? (i := 862) (by decide +kernel), List.mem_of_getElem? (i := 1249) (by decide +kernel), List.mem_of_getElem? (i := 1250) (by decide +kernel)⟩
def lw_privs_4 : List (MethodName × Nat) := [(⟨"HomeDrivesModel", "isCar", "(I)Z"⟩, 37), (⟨"HomeDrivesModel", "farOf", "(II)I"⟩, 37), (⟨"HomeDrivesModel", "drunk", "(II)I"⟩, 37), (⟨"HomeDrivesModel", "mayDrive", "(III)Z"⟩, 37), (⟨"HomeDrivesModel", "goingAt", "(I)I"⟩, 37), (⟨"HomeDrivesModel", "doesGo", "(II)Z"⟩, 37), (⟨"HomeDrivesModel", "isOnHill", "(I)Z"⟩, 37), (⟨"HomeDrivesModel", "layHome", "(I)V"⟩, 37), (⟨"HomeDrivesModel", "layRiders", "()V"⟩, 37), (⟨"HomeDrivesModel", "layTakes", "()V"⟩, 37), (⟨"HomeDrivesModel", "fits", "(II)Z"⟩, 37), (⟨"HomeDrivesModel", "leastOf", "(II)I"⟩, 37), (⟨"HomeDrivesModel", "layTried", "(II)Z"⟩, 37), (⟨"HomeDrivesModel", "minutesBy", "(II)I"⟩, 37), (⟨"HomeDrivesModel", "layRow", "(I)V"⟩, 37), (⟨"HomeDrivesModel", "sumOf", "()I"⟩, 37)]
theorem lw_r4 : ∀ q ∈ lw_privs_4, lw_okq q := List.forall_mem_cons.mpr ⟨lw_p48, List.forall_mem_cons.mpr ⟨lw_p49, List.forall_mem_cons.mpr ⟨lw_p50, List.forall_mem_cons.mpr ⟨lw_p51, List.forall_mem_cons.mpr ⟨lw_p52, List.forall_mem_cons.mpr ⟨lw_p53, List.forall_mem_cons.mpr ⟨lw_p54, List.forall_mem_cons.mpr ⟨lw_p55, List.forall_mem_cons.mpr ⟨lw_p56, List.forall_mem_cons.mpr ⟨lw_p57, List.forall_mem_cons.mpr ⟨lw_p58, List.forall_mem_cons.mpr ⟨lw_p59, List.forall_mem_cons.mpr ⟨lw_p60, List.forall_mem_cons.mpr ⟨lw_p61, List.forall_mem_cons.mpr ⟨lw_p62, List.forall_mem_cons.mpr ⟨lw_p63, fun _ h => absurd h List.not_mem_nil⟩⟩⟩⟩⟩⟩⟩⟩⟩⟩⟩⟩⟩⟩⟩⟩
theorem lw_p64 : lw_okq (⟨"HomeDrivesModel", "allFar", "(I)I"⟩, 37) := ⟨⟨by decide +kernel, by decide +kernel⟩, List.mem_of_getElem? (i := 862) (by decide +kernel), List.mem_of_getElem? (i := 1269) (by decide +kernel), List.mem_of_getElem? (i := 1270) (by decide +kernel)⟩
theorem lw_p65 : lw_okq (⟨"HomeDrivesModel", "lack", "(II)I"⟩, 37) := ⟨⟨by decide +kernel, by decide +kernel⟩, List.mem_of_getElem? (i := 862) (by decide +kernel), List.mem_of_getElem? (i := 1278) (by decide +kernel), List.mem_of_getElem? (i := 1279) (by decide +kernel)⟩
theorem lw_p66 : lw_okq (⟨"HomeDrivesModel", "noTimes", "()V"⟩, 37) := ⟨⟨by decide +kernel, by decide +kernel⟩, List.mem_of_getElem? (i := 862) (by decide +kernel), List.mem_of_getElem? (i := 1282) (by decide +kernel), List.mem_of_getElem? (i := 1283) (by decide +kernel)⟩
theorem lw_p67 : lw_okq (⟨"HomeDrivesModel", "sizeOf", "(I)I"⟩, 37) := ⟨⟨by decide +kernel, by decide +kernel⟩, List.mem_of_getElem? (i := 862) (by decide +kernel), List.mem_of_getElem? (i := 1314) (by decide +kernel), List.mem_of_getElem? (i := 1315) (by decide +kernel)⟩
theorem lw_p68 : lw_okq (⟨"HomeDrivesModel", "sickSize", "(I)I"⟩, 37) := ⟨⟨by decide +kernel, by decide +kernel⟩, List.mem_of_getElem? (i := 862) (by decide +kernel), List.mem_of_getElem? (i := 1318) (by decide +kernel), List.mem_of_getElem? (i := 1319) (by decide +kernel)⟩
theorem lw_p69 : lw_okq (⟨"HomeDrivesModel", "began", "(I)V"⟩, 37) := ⟨⟨by decide +kernel, by decide +kernel⟩, List.mem_of_getElem? (i := 862) (by decide +kernel), List.mem_of_getElem? (i := 1322) (by decide +kernel), List.mem_of_getElem? (i := 1323) (by decide +kernel)⟩
theorem lw_p70 : lw_okq (⟨"HomeDrivesModel", "plainSize", "(I)I"⟩, 37) := ⟨⟨by decide +kernel, by decide +kernel⟩, List.mem_of_getElem? (i := 862) (by decide +kernel), List.mem_of_getElem? (i := 1326) (by decide +kernel), List.mem_of_getElem? (i := 1327) (by decide +kernel)⟩
theorem lw_p71 : lw_okq (⟨"HomeDrivesModel", "markOf", "(I)I"⟩, 37) := ⟨⟨by decide +kernel, by decide +kernel⟩, List.mem_of_getElem? (i := 862) (by decide +kernel), List.mem_of_getElem? (i := 1330) (by decide +kernel), List.mem_of_getElem? (i := 1331) (by decide +kernel)⟩
def lw_privs_5 : List (MethodName × Nat) := [(⟨"HomeDrivesModel", "allFar", "(I)I"⟩, 37), (⟨"HomeDrivesModel", "lack", "(II)I"⟩, 37), (⟨"HomeDrivesModel", "noTimes", "()V"⟩, 37), (⟨"HomeDrivesModel", "sizeOf", "(I)I"⟩, 37), (⟨"HomeDrivesModel", "sickSize", "(I)I"⟩, 37), (⟨"HomeDrivesModel", "began", "(I)V"⟩, 37), (⟨"HomeDrivesModel", "plainSize", "(I)I"⟩, 37), (⟨"HomeDrivesModel", "markOf", "(I)I"⟩, 37)]
theorem lw_r5 : ∀ q ∈ lw_privs_5, lw_okq q := List.forall_mem_cons.mpr ⟨lw_p64, List.forall_mem_cons.mpr ⟨lw_p65, List.forall_mem_cons.mpr ⟨lw_p66, List.forall_mem_cons.mpr ⟨lw_p67, List.forall_mem_cons.mpr ⟨lw_p68, List.forall_mem_cons.mpr ⟨lw_p69, List.forall_mem_cons.mpr ⟨lw_p70, List.forall_mem_cons.mpr ⟨lw_p71, fun _ h => absurd h List.not_mem_nil⟩⟩⟩⟩⟩⟩⟩⟩
def lw_privs : List (MethodName × Nat) := lw_privs_1 ++ (lw_privs_2 ++ (lw_privs_3 ++ (lw_privs_4 ++ (lw_privs_5))))
def lw_tbl : List Cond := k2_sels lw_privs ++ tables_1
theorem lw_privs_ok : ∀ q ∈ lw_privs, lw_okq q := by
  show ∀ q ∈ lw_privs_1 ++ (lw_privs_2 ++ (lw_privs_3 ++ (lw_privs_4 ++ (lw_privs_5)))), lw_okq q
  exact List.forall_mem_append.mpr ⟨lw_r1, List.forall_mem_append.mpr ⟨lw_r2, List.forall_mem_append.mpr ⟨lw_r3, List.forall_mem_append.mpr ⟨lw_r4, lw_r5⟩⟩⟩⟩
-- ===== names =====
def RX0 : String := "HomeDrives$Asks"
def TX0 : u_T := fun k => match k with
  | 0 => ("HomeDrives$Asks", "numbers", "[I", true)
  | _ => ("HomeDrives$Asks", "left", "I", false)
def tyX0 : Nat → FieldType := fun k => match k with
  | 0 => .array .int
  | _ => .int
abbrev wsX00 : List Cond := u_ws RX0 TX0 2
theorem nmX0 : ∀ a, a < 2 → ∀ b, b < 2 → a ≠ b → (TX0 a).2.1 ≠ (TX0 b).2.1 := by decide +kernel
theorem tyX0_ok : ∀ k, k < 2 → parseFieldDescriptor (TX0 k).2.2.1 = some (tyX0 k) := by decide +kernel
abbrev cX0_init : ByteArray := prog_2_method_1_code
def yX0_init : MethodName := ⟨RX0, "<init>", "()V"⟩
abbrev cX0_forget : ByteArray := prog_2_method_2_code
def yX0_forget : MethodName := ⟨RX0, "forget", "()V"⟩
abbrev cX0_pose : ByteArray := prog_2_method_3_code
def yX0_pose : MethodName := ⟨RX0, "pose", "(LHomeDrives$Evening;III)I"⟩
abbrev cX0_begin : ByteArray := prog_2_method_4_code
def yX0_begin : MethodName := ⟨RX0, "begin", "(LHomeDrives$Evening;III)I"⟩
abbrev cX0_leave : ByteArray := prog_2_method_5_code
def yX0_leave : MethodName := ⟨RX0, "leave", "(I)V"⟩
def RX1 : String := "HomeDrives$Book"
def TX1 : u_T := fun k => match k with
  | 0 => ("HomeDrives$Book", "times", "[I", true)
  | _ => ("HomeDrives$Book", "always", "I", false)
def tyX1 : Nat → FieldType := fun k => match k with
  | 0 => .array .int
  | _ => .int
abbrev wsX10 : List Cond := u_ws RX1 TX1 2
theorem nmX1 : ∀ a, a < 2 → ∀ b, b < 2 → a ≠ b → (TX1 a).2.1 ≠ (TX1 b).2.1 := by decide +kernel
theorem tyX1_ok : ∀ k, k < 2 → parseFieldDescriptor (TX1 k).2.2.1 = some (tyX1 k) := by decide +kernel
abbrev cX1_init : ByteArray := prog_3_method_1_code
def yX1_init : MethodName := ⟨RX1, "<init>", "()V"⟩
abbrev cX1_countDrives : ByteArray := prog_3_method_2_code
def yX1_countDrives : MethodName := ⟨RX1, "countDrives", "(LHomeDrives$Rows;III)Z"⟩
abbrev cX1_countSitters : ByteArray := prog_3_method_3_code
def yX1_countSitters : MethodName := ⟨RX1, "countSitters", "(LHomeDrives$Rows;III)Z"⟩
abbrev cX1_firstOfFewest : ByteArray := prog_3_method_4_code
def yX1_firstOfFewest : MethodName := ⟨RX1, "firstOfFewest", "(I)I"⟩
abbrev cX1_firstOfMost : ByteArray := prog_3_method_5_code
def yX1_firstOfMost : MethodName := ⟨RX1, "firstOfMost", "(I)I"⟩
abbrev cX1_missingDrives : ByteArray := prog_3_method_6_code
def yX1_missingDrives : MethodName := ⟨RX1, "missingDrives", "(I)I"⟩
def RX2 : String := "HomeDrives$Drinks"
def TX2 : u_T := fun k => match k with
  | 0 => ("HomeDrives$Drinks", "who", "[I", true)
  | 1 => ("HomeDrives$Drinks", "many", "[I", true)
  | _ => ("HomeDrives$Drinks", "kept", "I", false)
def tyX2 : Nat → FieldType := fun k => match k with
  | 0 => .array .int
  | 1 => .array .int
  | _ => .int
abbrev wsX20 : List Cond := u_ws RX2 TX2 3
theorem nmX2 : ∀ a, a < 3 → ∀ b, b < 3 → a ≠ b → (TX2 a).2.1 ≠ (TX2 b).2.1 := by decide +kernel
theorem tyX2_ok : ∀ k, k < 3 → parseFieldDescriptor (TX2 k).2.2.1 = some (tyX2 k) := by decide +kernel
abbrev cX2_init : ByteArray := prog_4_method_1_code
def yX2_init : MethodName := ⟨RX2, "<init>", "()V"⟩
abbrev cX2_forget : ByteArray := prog_4_method_2_code
def yX2_forget : MethodName := ⟨RX2, "forget", "()V"⟩
abbrev cX2_keep : ByteArray := prog_4_method_3_code
def yX2_keep : MethodName := ⟨RX2, "keep", "(II)V"⟩
abbrev cX2_takeBack : ByteArray := prog_4_method_4_code
def yX2_takeBack : MethodName := ⟨RX2, "takeBack", "(LHomeDrives$Evening;)V"⟩
def RX3 : String := "HomeDrives$Evening"
def TX3 : u_T := fun k => match k with
  | 0 => ("HomeDrives$Evening", "told", "Z", false)
  | 1 => ("HomeDrives$Evening", "limit", "I", false)
  | 2 => ("HomeDrives$Evening", "rate", "I", false)
  | 3 => ("HomeDrives$Evening", "waysTold", "I", false)
  | 4 => ("HomeDrives$Evening", "hillsTold", "I", false)
  | 5 => ("HomeDrives$Evening", "quarrelsTold", "I", false)
  | 6 => ("HomeDrives$Evening", "people", "I", false)
  | 7 => ("HomeDrives$Evening", "cars", "I", false)
  | 8 => ("HomeDrives$Evening", "hills", "I", false)
  | 9 => ("HomeDrives$Evening", "sick", "I", false)
  | 10 => ("HomeDrives$Evening", "minutes", "[I", true)
  | 11 => ("HomeDrives$Evening", "kinds", "[I", true)
  | 12 => ("HomeDrives$Evening", "homes", "[I", true)
  | 13 => ("HomeDrives$Evening", "glasses", "[I", true)
  | 14 => ("HomeDrives$Evening", "quarrels", "[I", true)
  | 15 => ("HomeDrives$Evening", "owners", "[I", true)
  | 16 => ("HomeDrives$Evening", "seats", "[I", true)
  | _ => ("HomeDrives$Evening", "snow", "[I", true)
def tyX3 : Nat → FieldType := fun k => match k with
  | 0 => .boolean
  | 1 => .int
  | 2 => .int
  | 3 => .int
  | 4 => .int
  | 5 => .int
  | 6 => .int
  | 7 => .int
  | 8 => .int
  | 9 => .int
  | 10 => .array .int
  | 11 => .array .int
  | 12 => .array .int
  | 13 => .array .int
  | 14 => .array .int
  | 15 => .array .int
  | 16 => .array .int
  | _ => .array .int
abbrev wsX30 : List Cond := u_ws RX3 TX3 18
theorem nmX3 : ∀ a, a < 18 → ∀ b, b < 18 → a ≠ b → (TX3 a).2.1 ≠ (TX3 b).2.1 := by decide +kernel
theorem tyX3_ok : ∀ k, k < 18 → parseFieldDescriptor (TX3 k).2.2.1 = some (tyX3 k) := by decide +kernel
abbrev cX3_init : ByteArray := prog_5_method_1_code
def yX3_init : MethodName := ⟨RX3, "<init>", "()V"⟩
abbrev cX3_clear : ByteArray := prog_5_method_2_code
def yX3_clear : MethodName := ⟨RX3, "clear", "()V"⟩
abbrev cX3_takeFrom : ByteArray := prog_5_method_3_code
def yX3_takeFrom : MethodName := ⟨RX3, "takeFrom", "(LHomeDrives$Evening;)V"⟩
abbrev cX3_addWay : ByteArray := prog_5_method_4_code
def yX3_addWay : MethodName := ⟨RX3, "addWay", "(III)V"⟩
abbrev cX3_addHill : ByteArray := prog_5_method_5_code
def yX3_addHill : MethodName := ⟨RX3, "addHill", "(I)V"⟩
abbrev cX3_addPerson : ByteArray := prog_5_method_6_code
def yX3_addPerson : MethodName := ⟨RX3, "addPerson", "(III)V"⟩
abbrev cX3_addCar : ByteArray := prog_5_method_7_code
def yX3_addCar : MethodName := ⟨RX3, "addCar", "(III)V"⟩
abbrev cX3_addQuarrel : ByteArray := prog_5_method_8_code
def yX3_addQuarrel : MethodName := ⟨RX3, "addQuarrel", "(II)V"⟩
abbrev cX3_finish : ByteArray := prog_5_method_9_code
def yX3_finish : MethodName := ⟨RX3, "finish", "()V"⟩
abbrev cX3_hasPerson : ByteArray := prog_5_method_10_code
def yX3_hasPerson : MethodName := ⟨RX3, "hasPerson", "(I)Z"⟩
abbrev cX3_hasCar : ByteArray := prog_5_method_11_code
def yX3_hasCar : MethodName := ⟨RX3, "hasCar", "(I)Z"⟩
abbrev cX3_minutesBetween : ByteArray := prog_5_method_12_code
def yX3_minutesBetween : MethodName := ⟨RX3, "minutesBetween", "(II)I"⟩
abbrev cX3_areJoined : ByteArray := prog_5_method_13_code
def yX3_areJoined : MethodName := ⟨RX3, "areJoined", "(II)Z"⟩
abbrev cX3_carOf : ByteArray := prog_5_method_14_code
def yX3_carOf : MethodName := ⟨RX3, "carOf", "(I)I"⟩
abbrev cX3_siteOfOwner : ByteArray := prog_5_method_15_code
def yX3_siteOfOwner : MethodName := ⟨RX3, "siteOfOwner", "(I)I"⟩
abbrev cX3_glassesInAll : ByteArray := prog_5_method_16_code
def yX3_glassesInAll : MethodName := ⟨RX3, "glassesInAll", "()I"⟩
abbrev cX3_drunkAfter : ByteArray := prog_5_method_17_code
def yX3_drunkAfter : MethodName := ⟨RX3, "drunkAfter", "(II)I"⟩
abbrev cX3_mayDrive : ByteArray := prog_5_method_18_code
def yX3_mayDrive : MethodName := ⟨RX3, "mayDrive", "(III)Z"⟩
abbrev cX3_reaches : ByteArray := prog_5_method_19_code
def yX3_reaches : MethodName := ⟨RX3, "reaches", "(II)Z"⟩
abbrev cX3_carsThatGo : ByteArray := prog_5_method_20_code
def yX3_carsThatGo : MethodName := ⟨RX3, "carsThatGo", "(I)I"⟩
abbrev cX3_hasRoomFor : ByteArray := prog_5_method_21_code
def yX3_hasRoomFor : MethodName := ⟨RX3, "hasRoomFor", "(III)Z"⟩
abbrev cX3_tripsFor : ByteArray := prog_5_method_22_code
def yX3_tripsFor : MethodName := ⟨RX3, "tripsFor", "(I)I"⟩
abbrev cX3_peopleWhoDriveOnSunday : ByteArray := prog_5_method_23_code
def yX3_peopleWhoDriveOnSunday : MethodName := ⟨RX3, "peopleWhoDriveOnSunday", "()I"⟩
abbrev cX3_bestHouse : ByteArray := prog_5_method_24_code
def yX3_bestHouse : MethodName := ⟨RX3, "bestHouse", "()I"⟩
abbrev cX3_farFromAll : ByteArray := prog_5_method_25_code
def yX3_farFromAll : MethodName := ⟨RX3, "farFromAll", "(I)I"⟩
def RX4 : String := "HomeDrives$Planner"
def TX4 : u_T := fun k => match k with
  | 0 => ("HomeDrives$Planner", "known", "[I", true)
  | 1 => ("HomeDrives$Planner", "riders", "[I", true)
  | 2 => ("HomeDrives$Planner", "planned", "I", false)
  | 3 => ("HomeDrives$Planner", "couch", "I", false)
  | 4 => ("HomeDrives$Planner", "minutes", "I", false)
  | 5 => ("HomeDrives$Planner", "fewest", "I", false)
  | 6 => ("HomeDrives$Planner", "aboard", "[I", true)
  | 7 => ("HomeDrives$Planner", "going", "I", false)
  | 8 => ("HomeDrives$Planner", "drivers", "I", false)
  | 9 => ("HomeDrives$Planner", "line", "[I", true)
  | 10 => ("HomeDrives$Planner", "shortestLine", "[I", true)
  | _ => ("HomeDrives$Planner", "shortest", "I", false)
def tyX4 : Nat → FieldType := fun k => match k with
  | 0 => .array .int
  | 1 => .array .int
  | 2 => .int
  | 3 => .int
  | 4 => .int
  | 5 => .int
  | 6 => .array .int
  | 7 => .int
  | 8 => .int
  | 9 => .array .int
  | 10 => .array .int
  | _ => .int
abbrev wsX40 : List Cond := u_ws RX4 TX4 12
theorem nmX4 : ∀ a, a < 12 → ∀ b, b < 12 → a ≠ b → (TX4 a).2.1 ≠ (TX4 b).2.1 := by decide +kernel
theorem tyX4_ok : ∀ k, k < 12 → parseFieldDescriptor (TX4 k).2.2.1 = some (tyX4 k) := by decide +kernel
abbrev cX4_init : ByteArray := prog_6_method_1_code
def yX4_init : MethodName := ⟨RX4, "<init>", "()V"⟩
abbrev cX4_forget : ByteArray := prog_6_method_2_code
def yX4_forget : MethodName := ⟨RX4, "forget", "()V"⟩
abbrev cX4_ridersOf : ByteArray := prog_6_method_3_code
def yX4_ridersOf : MethodName := ⟨RX4, "ridersOf", "(I)I"⟩
abbrev cX4_plan : ByteArray := prog_6_method_4_code
def yX4_plan : MethodName := ⟨RX4, "plan", "(LHomeDrives$Evening;I)V"⟩
abbrev cX4_seat : ByteArray := prog_6_method_5_code
def yX4_seat : MethodName := ⟨RX4, "seat", "(LHomeDrives$Evening;II)V"⟩
abbrev cX4_keepIfBetter : ByteArray := prog_6_method_6_code
def yX4_keepIfBetter : MethodName := ⟨RX4, "keepIfBetter", "(LHomeDrives$Evening;I)V"⟩
abbrev cX4_minutesOf : ByteArray := prog_6_method_7_code
def yX4_minutesOf : MethodName := ⟨RX4, "minutesOf", "(LHomeDrives$Evening;II)I"⟩
abbrev cX4_setDownAs : ByteArray := prog_6_method_8_code
def yX4_setDownAs : MethodName := ⟨RX4, "setDownAs", "(LHomeDrives$Evening;III)I"⟩
abbrev cX4_walk : ByteArray := prog_6_method_9_code
def yX4_walk : MethodName := ⟨RX4, "walk", "(LHomeDrives$Evening;IIIII)V"⟩
def RX5 : String := "HomeDrives$Reader"
def TX5 : u_T := fun k => match k with
  | 0 => ("HomeDrives$Reader", "tape", "[B", true)
  | 1 => ("HomeDrives$Reader", "length", "I", false)
  | 2 => ("HomeDrives$Reader", "faultNumber", "I", false)
  | 3 => ("HomeDrives$Reader", "faultPlace", "I", false)
  | 4 => ("HomeDrives$Reader", "sort", "I", false)
  | 5 => ("HomeDrives$Reader", "start", "I", false)
  | 6 => ("HomeDrives$Reader", "end", "I", false)
  | 7 => ("HomeDrives$Reader", "value", "I", false)
  | _ => ("HomeDrives$Reader", "reached", "I", false)
def tyX5 : Nat → FieldType := fun k => match k with
  | 0 => .array .byte
  | 1 => .int
  | 2 => .int
  | 3 => .int
  | 4 => .int
  | 5 => .int
  | 6 => .int
  | 7 => .int
  | _ => .int
abbrev wsX50 : List Cond := u_ws RX5 TX5 9
theorem nmX5 : ∀ a, a < 9 → ∀ b, b < 9 → a ≠ b → (TX5 a).2.1 ≠ (TX5 b).2.1 := by decide +kernel
theorem tyX5_ok : ∀ k, k < 9 → parseFieldDescriptor (TX5 k).2.2.1 = some (tyX5 k) := by decide +kernel
abbrev cX5_init : ByteArray := prog_7_method_1_code
def yX5_init : MethodName := ⟨RX5, "<init>", "()V"⟩
abbrev cX5_append : ByteArray := prog_7_method_2_code
def yX5_append : MethodName := ⟨RX5, "append", "(JI)I"⟩
abbrev cX5_readInto : ByteArray := prog_7_method_3_code
def yX5_readInto : MethodName := ⟨RX5, "readInto", "(LHomeDrives$Evening;)Z"⟩
abbrev cX5_readLaw : ByteArray := prog_7_method_4_code
def yX5_readLaw : MethodName := ⟨RX5, "readLaw", "(LHomeDrives$Evening;)Z"⟩
abbrev cX5_readStatement : ByteArray := prog_7_method_5_code
def yX5_readStatement : MethodName := ⟨RX5, "readStatement", "(LHomeDrives$Evening;)Z"⟩
abbrev cX5_statementWord : ByteArray := prog_7_method_6_code
def yX5_statementWord : MethodName := ⟨RX5, "statementWord", "()I"⟩
abbrev cX5_readWay : ByteArray := prog_7_method_7_code
def yX5_readWay : MethodName := ⟨RX5, "readWay", "(LHomeDrives$Evening;)Z"⟩
abbrev cX5_readHill : ByteArray := prog_7_method_8_code
def yX5_readHill : MethodName := ⟨RX5, "readHill", "(LHomeDrives$Evening;)Z"⟩
abbrev cX5_readPerson : ByteArray := prog_7_method_9_code
def yX5_readPerson : MethodName := ⟨RX5, "readPerson", "(LHomeDrives$Evening;)Z"⟩
abbrev cX5_kindWord : ByteArray := prog_7_method_10_code
def yX5_kindWord : MethodName := ⟨RX5, "kindWord", "()I"⟩
abbrev cX5_readCar : ByteArray := prog_7_method_11_code
def yX5_readCar : MethodName := ⟨RX5, "readCar", "(LHomeDrives$Evening;)Z"⟩
abbrev cX5_readQuarrel : ByteArray := prog_7_method_12_code
def yX5_readQuarrel : MethodName := ⟨RX5, "readQuarrel", "(LHomeDrives$Evening;)Z"⟩
abbrev cX5_readNumber : ByteArray := prog_7_method_13_code
def yX5_readNumber : MethodName := ⟨RX5, "readNumber", "(II)Z"⟩
abbrev cX5_readSign : ByteArray := prog_7_method_14_code
def yX5_readSign : MethodName := ⟨RX5, "readSign", "()Z"⟩
abbrev cX5_fail : ByteArray := prog_7_method_15_code
def yX5_fail : MethodName := ⟨RX5, "fail", "(I)Z"⟩
abbrev cX5_readToken : ByteArray := prog_7_method_16_code
def yX5_readToken : MethodName := ⟨RX5, "readToken", "()V"⟩
abbrev cX5_readLetters : ByteArray := prog_7_method_17_code
def yX5_readLetters : MethodName := ⟨RX5, "readLetters", "()V"⟩
abbrev cX5_readFigures : ByteArray := prog_7_method_18_code
def yX5_readFigures : MethodName := ⟨RX5, "readFigures", "()V"⟩
abbrev cX5_isWord : ByteArray := prog_7_method_19_code
def yX5_isWord : MethodName := ⟨RX5, "isWord", "(Ljava/lang/String;)Z"⟩
abbrev cX5_isGap : ByteArray := prog_7_method_20_code
def yX5_isGap : MethodName := ⟨RX5, "isGap", "(B)Z"⟩
abbrev cX5_isLetter : ByteArray := prog_7_method_21_code
def yX5_isLetter : MethodName := ⟨RX5, "isLetter", "(B)Z"⟩
abbrev cX5_isFigure : ByteArray := prog_7_method_22_code
def yX5_isFigure : MethodName := ⟨RX5, "isFigure", "(B)Z"⟩
def RX6 : String := "HomeDrives$Rows"
def TX6 : u_T := fun k => match k with
  | 0 => ("HomeDrives$Rows", "lanes", "[I", true)
  | 1 => ("HomeDrives$Rows", "sizes", "[I", true)
  | _ => ("HomeDrives$Rows", "items", "[[I", true)
def tyX6 : Nat → FieldType := fun k => match k with
  | 0 => .array .int
  | 1 => .array .int
  | _ => .array (.array .int)
abbrev wsX60 : List Cond := u_ws RX6 TX6 3
theorem nmX6 : ∀ a, a < 3 → ∀ b, b < 3 → a ≠ b → (TX6 a).2.1 ≠ (TX6 b).2.1 := by decide +kernel
theorem tyX6_ok : ∀ k, k < 3 → parseFieldDescriptor (TX6 k).2.2.1 = some (tyX6 k) := by decide +kernel
abbrev cX6_init : ByteArray := prog_8_method_1_code
def yX6_init : MethodName := ⟨RX6, "<init>", "()V"⟩
abbrev cX6_isMissing : ByteArray := prog_8_method_2_code
def yX6_isMissing : MethodName := ⟨RX6, "isMissing", "(I)Z"⟩
abbrev cX6_areOfOneLane : ByteArray := prog_8_method_3_code
def yX6_areOfOneLane : MethodName := ⟨RX6, "areOfOneLane", "(II)Z"⟩
abbrev cX6_hasStretch : ByteArray := prog_8_method_4_code
def yX6_hasStretch : MethodName := ⟨RX6, "hasStretch", "(III)Z"⟩
abbrev cX6_make : ByteArray := prog_8_method_5_code
def yX6_make : MethodName := ⟨RX6, "make", "(III)V"⟩
abbrev cX6_put : ByteArray := prog_8_method_6_code
def yX6_put : MethodName := ⟨RX6, "put", "(III)I"⟩
abbrev cX6_item : ByteArray := prog_8_method_7_code
def yX6_item : MethodName := ⟨RX6, "item", "(II)I"⟩
abbrev cX6_move : ByteArray := prog_8_method_8_code
def yX6_move : MethodName := ⟨RX6, "move", "(IIIII)V"⟩
abbrev cX6_takeAway : ByteArray := prog_8_method_9_code
def yX6_takeAway : MethodName := ⟨RX6, "takeAway", "(I)I"⟩
abbrev cX6_present : ByteArray := prog_8_method_10_code
def yX6_present : MethodName := ⟨RX6, "present", "()I"⟩
abbrev cX6_inLane : ByteArray := prog_8_method_11_code
def yX6_inLane : MethodName := ⟨RX6, "inLane", "(II)I"⟩
def RX7 : String := "HomeDrives"
def TX7 : u_T := fun k => match k with
  | 0 => ("HomeDrives", "rows", "LHomeDrives$Rows;", true)
  | 1 => ("HomeDrives", "reader", "LHomeDrives$Reader;", true)
  | 2 => ("HomeDrives", "images", "[LHomeDrives$Evening;", true)
  | 3 => ("HomeDrives", "drinks", "LHomeDrives$Drinks;", true)
  | 4 => ("HomeDrives", "planner", "LHomeDrives$Planner;", true)
  | 5 => ("HomeDrives", "book", "LHomeDrives$Book;", true)
  | 6 => ("HomeDrives", "asks", "LHomeDrives$Asks;", true)
  | 7 => ("HomeDrives", "now", "LHomeDrives$Evening;", false)
  | 8 => ("HomeDrives", "draft", "LHomeDrives$Evening;", false)
  | _ => ("HomeDrives", "finding", "I", false)
def tyX7 : Nat → FieldType := fun k => match k with
  | 0 => .object "HomeDrives$Rows"
  | 1 => .object "HomeDrives$Reader"
  | 2 => .array (.object "HomeDrives$Evening")
  | 3 => .object "HomeDrives$Drinks"
  | 4 => .object "HomeDrives$Planner"
  | 5 => .object "HomeDrives$Book"
  | 6 => .object "HomeDrives$Asks"
  | 7 => .object "HomeDrives$Evening"
  | 8 => .object "HomeDrives$Evening"
  | _ => .int
abbrev wsX70 : List Cond := u_ws RX7 TX7 10
theorem nmX7 : ∀ a, a < 10 → ∀ b, b < 10 → a ≠ b → (TX7 a).2.1 ≠ (TX7 b).2.1 := by decide +kernel
theorem tyX7_ok : ∀ k, k < 10 → parseFieldDescriptor (TX7 k).2.2.1 = some (tyX7 k) := by decide +kernel
abbrev cX7_init : ByteArray := prog_1_method_1_code
def yX7_init : MethodName := ⟨RX7, "<init>", "()V"⟩
abbrev cX7_row : ByteArray := prog_1_method_2_code
def yX7_row : MethodName := ⟨RX7, "row", "(III)I"⟩
abbrev cX7_set : ByteArray := prog_1_method_3_code
def yX7_set : MethodName := ⟨RX7, "set", "(III)I"⟩
abbrev cX7_copy : ByteArray := prog_1_method_4_code
def yX7_copy : MethodName := ⟨RX7, "copy", "(IIIII)I"⟩
abbrev cX7_drop : ByteArray := prog_1_method_5_code
def yX7_drop : MethodName := ⟨RX7, "drop", "(I)I"⟩
abbrev cX7_feed : ByteArray := prog_1_method_6_code
def yX7_feed : MethodName := ⟨RX7, "feed", "(JI)I"⟩
abbrev cX7_evening : ByteArray := prog_1_method_7_code
def yX7_evening : MethodName := ⟨RX7, "evening", "()I"⟩
abbrev cX7_fault : ByteArray := prog_1_method_8_code
def yX7_fault : MethodName := ⟨RX7, "fault", "()I"⟩
abbrev cX7_drink : ByteArray := prog_1_method_9_code
def yX7_drink : MethodName := ⟨RX7, "drink", "(II)I"⟩
abbrev cX7_undo : ByteArray := prog_1_method_10_code
def yX7_undo : MethodName := ⟨RX7, "undo", "()I"⟩
abbrev cX7_person : ByteArray := prog_1_method_11_code
def yX7_person : MethodName := ⟨RX7, "person", "(II)I"⟩
abbrev cX7_car : ByteArray := prog_1_method_12_code
def yX7_car : MethodName := ⟨RX7, "car", "(II)I"⟩
abbrev cX7_far : ByteArray := prog_1_method_13_code
def yX7_far : MethodName := ⟨RX7, "far", "(II)I"⟩
abbrev cX7_may : ByteArray := prog_1_method_14_code
def yX7_may : MethodName := ⟨RX7, "may", "(III)I"⟩
abbrev cX7_soon : ByteArray := prog_1_method_15_code
def yX7_soon : MethodName := ⟨RX7, "soon", "(I)I"⟩
abbrev cX7_odds : ByteArray := prog_1_method_16_code
def yX7_odds : MethodName := ⟨RX7, "odds", "(IIII)I"⟩
abbrev cX7_goes : ByteArray := prog_1_method_17_code
def yX7_goes : MethodName := ⟨RX7, "goes", "(I)I"⟩
abbrev cX7_home : ByteArray := prog_1_method_18_code
def yX7_home : MethodName := ⟨RX7, "home", "(II)I"⟩
abbrev cX7_order : ByteArray := prog_1_method_19_code
def yX7_order : MethodName := ⟨RX7, "order", "(III)I"⟩
abbrev cX7_detour : ByteArray := prog_1_method_20_code
def yX7_detour : MethodName := ⟨RX7, "detour", "(II)I"⟩
abbrev cX7_fetch : ByteArray := prog_1_method_21_code
def yX7_fetch : MethodName := ⟨RX7, "fetch", "(I)I"⟩
abbrev cX7_house : ByteArray := prog_1_method_22_code
def yX7_house : MethodName := ⟨RX7, "house", "(I)I"⟩
abbrev cX7_turn : ByteArray := prog_1_method_23_code
def yX7_turn : MethodName := ⟨RX7, "turn", "(III)I"⟩
abbrev cX7_gloves : ByteArray := prog_1_method_24_code
def yX7_gloves : MethodName := ⟨RX7, "gloves", "(III)I"⟩
abbrev cX7_image : ByteArray := prog_1_method_25_code
def yX7_image : MethodName := ⟨RX7, "image", "(I)I"⟩
abbrev cX7_restore : ByteArray := prog_1_method_26_code
def yX7_restore : MethodName := ⟨RX7, "restore", "(I)I"⟩
abbrev cX7_kind : ByteArray := prog_1_method_27_code
def yX7_kind : MethodName := ⟨RX7, "kind", "(I)I"⟩
abbrev cX7_as : ByteArray := prog_1_method_28_code
def yX7_as : MethodName := ⟨RX7, "as", "(II)I"⟩
abbrev cX7_ask : ByteArray := prog_1_method_29_code
def yX7_ask : MethodName := ⟨RX7, "ask", "(II)I"⟩
abbrev cX7_trace : ByteArray := prog_1_method_30_code
def yX7_trace : MethodName := ⟨RX7, "trace", "(I)I"⟩
abbrev cX7_count : ByteArray := prog_1_method_31_code
def yX7_count : MethodName := ⟨RX7, "count", "(I)I"⟩
abbrev cX7_status : ByteArray := prog_1_method_32_code
def yX7_status : MethodName := ⟨RX7, "status", "()I"⟩
abbrev cX7_found : ByteArray := prog_1_method_33_code
def yX7_found : MethodName := ⟨RX7, "found", "(I)I"⟩
abbrev cX7_fine : ByteArray := prog_1_method_34_code
def yX7_fine : MethodName := ⟨RX7, "fine", "(I)I"⟩
abbrev cX7_beginAnew : ByteArray := prog_1_method_35_code
def yX7_beginAnew : MethodName := ⟨RX7, "beginAnew", "()V"⟩
abbrev cX7_isRow : ByteArray := prog_1_method_36_code
def yX7_isRow : MethodName := ⟨RX7, "isRow", "(I)Z"⟩
abbrev cX7_isMinute : ByteArray := prog_1_method_37_code
def yX7_isMinute : MethodName := ⟨RX7, "isMinute", "(I)Z"⟩
abbrev cX7_hasBit : ByteArray := prog_1_method_38_code
def yX7_hasBit : MethodName := ⟨RX7, "hasBit", "(II)Z"⟩
abbrev cX7_isOfKind : ByteArray := prog_1_method_39_code
def yX7_isOfKind : MethodName := ⟨RX7, "isOfKind", "(II)Z"⟩
abbrev cX7_commonDivisor : ByteArray := prog_1_method_40_code
def yX7_commonDivisor : MethodName := ⟨RX7, "commonDivisor", "(II)I"⟩
def RX8 : String := "HomeDrivesModel"
def TX8 : u_T := fun k => match k with
  | 0 => ("HomeDrivesModel", "thrown", "I", false)
  | 1 => ("HomeDrivesModel", "status", "I", false)
  | 2 => ("HomeDrivesModel", "lane", "[I", true)
  | 3 => ("HomeDrivesModel", "many", "[I", true)
  | 4 => ("HomeDrivesModel", "item", "[I", true)
  | 5 => ("HomeDrivesModel", "evening", "[I", true)
  | 6 => ("HomeDrivesModel", "fresh", "[I", true)
  | 7 => ("HomeDrivesModel", "isThere", "Z", false)
  | 8 => ("HomeDrivesModel", "who", "[I", true)
  | 9 => ("HomeDrivesModel", "drank", "[I", true)
  | 10 => ("HomeDrivesModel", "drinks", "I", false)
  | 11 => ("HomeDrivesModel", "tape", "[I", true)
  | 12 => ("HomeDrivesModel", "taped", "I", false)
  | 13 => ("HomeDrivesModel", "latest", "I", false)
  | 14 => ("HomeDrivesModel", "length", "I", false)
  | 15 => ("HomeDrivesModel", "cursor", "I", false)
  | 16 => ("HomeDrivesModel", "token", "I", false)
  | 17 => ("HomeDrivesModel", "start", "I", false)
  | 18 => ("HomeDrivesModel", "till", "I", false)
  | 19 => ("HomeDrivesModel", "fault", "I", false)
  | 20 => ("HomeDrivesModel", "faultAt", "I", false)
  | 21 => ("HomeDrivesModel", "takes", "[I", true)
  | 22 => ("HomeDrivesModel", "riders", "[I", true)
  | 23 => ("HomeDrivesModel", "tried", "[I", true)
  | 24 => ("HomeDrivesModel", "best", "[I", true)
  | 25 => ("HomeDrivesModel", "inCar", "[I", true)
  | 26 => ("HomeDrivesModel", "stay", "I", false)
  | 27 => ("HomeDrivesModel", "going", "I", false)
  | 28 => ("HomeDrivesModel", "together", "I", false)
  | 29 => ("HomeDrivesModel", "rider", "[I", true)
  | 30 => ("HomeDrivesModel", "riderMany", "I", false)
  | 31 => ("HomeDrivesModel", "triedIn", "[I", true)
  | 32 => ("HomeDrivesModel", "times", "[I", true)
  | 33 => ("HomeDrivesModel", "isKept", "[Z", true)
  | 34 => ("HomeDrivesModel", "kept", "[I", true)
  | 35 => ("HomeDrivesModel", "trace", "[I", true)
  | _ => ("HomeDrivesModel", "traced", "I", false)
def tyX8 : Nat → FieldType := fun k => match k with
  | 0 => .int
  | 1 => .int
  | 2 => .array .int
  | 3 => .array .int
  | 4 => .array .int
  | 5 => .array .int
  | 6 => .array .int
  | 7 => .boolean
  | 8 => .array .int
  | 9 => .array .int
  | 10 => .int
  | 11 => .array .int
  | 12 => .int
  | 13 => .int
  | 14 => .int
  | 15 => .int
  | 16 => .int
  | 17 => .int
  | 18 => .int
  | 19 => .int
  | 20 => .int
  | 21 => .array .int
  | 22 => .array .int
  | 23 => .array .int
  | 24 => .array .int
  | 25 => .array .int
  | 26 => .int
  | 27 => .int
  | 28 => .int
  | 29 => .array .int
  | 30 => .int
  | 31 => .array .int
  | 32 => .array .int
  | 33 => .array .boolean
  | 34 => .array .int
  | 35 => .array .int
  | _ => .int
abbrev wsX80 : List Cond := u_ws RX8 TX8 37
theorem nmX8 : ∀ a, a < 37 → ∀ b, b < 37 → a ≠ b → (TX8 a).2.1 ≠ (TX8 b).2.1 := by decide +kernel
theorem tyX8_ok : ∀ k, k < 37 → parseFieldDescriptor (TX8 k).2.2.1 = some (tyX8 k) := by decide +kernel
abbrev cX8_init : ByteArray := prog_10_method_1_code
def yX8_init : MethodName := ⟨RX8, "<init>", "()V"⟩
abbrev cX8_in : ByteArray := prog_10_method_3_code
def yX8_in : MethodName := ⟨RX8, "in", "(JJJ)Z"⟩
abbrev cX8_finding : ByteArray := prog_10_method_4_code
def yX8_finding : MethodName := ⟨RX8, "finding", "(I)I"⟩
abbrev cX8_isRow : ByteArray := prog_10_method_5_code
def yX8_isRow : MethodName := ⟨RX8, "isRow", "(I)Z"⟩
abbrev cX8_row : ByteArray := prog_10_method_6_code
def yX8_row : MethodName := ⟨RX8, "row", "(III)I"⟩
abbrev cX8_set : ByteArray := prog_10_method_7_code
def yX8_set : MethodName := ⟨RX8, "set", "(III)I"⟩
abbrev cX8_copy : ByteArray := prog_10_method_8_code
def yX8_copy : MethodName := ⟨RX8, "copy", "(IIIII)I"⟩
abbrev cX8_drop : ByteArray := prog_10_method_9_code
def yX8_drop : MethodName := ⟨RX8, "drop", "(I)I"⟩
abbrev cX8_feed : ByteArray := prog_10_method_10_code
def yX8_feed : MethodName := ⟨RX8, "feed", "(JI)I"⟩
abbrev cX8_byteAt : ByteArray := prog_10_method_11_code
def yX8_byteAt : MethodName := ⟨RX8, "byteAt", "(I)I"⟩
abbrev cX8_isLetter : ByteArray := prog_10_method_12_code
def yX8_isLetter : MethodName := ⟨RX8, "isLetter", "(I)Z"⟩
abbrev cX8_isFigure : ByteArray := prog_10_method_13_code
def yX8_isFigure : MethodName := ⟨RX8, "isFigure", "(I)Z"⟩
abbrev cX8_next : ByteArray := prog_10_method_14_code
def yX8_next : MethodName := ⟨RX8, "next", "()V"⟩
abbrev cX8_begin : ByteArray := prog_10_method_15_code
def yX8_begin : MethodName := ⟨RX8, "begin", "()V"⟩
abbrev cX8_bad : ByteArray := prog_10_method_16_code
def yX8_bad : MethodName := ⟨RX8, "bad", "(I)V"⟩
abbrev cX8_must : ByteArray := prog_10_method_17_code
def yX8_must : MethodName := ⟨RX8, "must", "(Z)V"⟩
abbrev cX8_name : ByteArray := prog_10_method_18_code
def yX8_name : MethodName := ⟨RX8, "name", "()J"⟩
abbrev cX8_figures : ByteArray := prog_10_method_19_code
def yX8_figures : MethodName := ⟨RX8, "figures", "()I"⟩
abbrev cX8_number : ByteArray := prog_10_method_20_code
def yX8_number : MethodName := ⟨RX8, "number", "(II)I"⟩
abbrev cX8_kindBy : ByteArray := prog_10_method_21_code
def yX8_kindBy : MethodName := ⟨RX8, "kindBy", "(J)I"⟩
abbrev cX8_mustEnd : ByteArray := prog_10_method_22_code
def yX8_mustEnd : MethodName := ⟨RX8, "mustEnd", "()V"⟩
abbrev cX8_begins : ByteArray := prog_10_method_23_code
def yX8_begins : MethodName := ⟨RX8, "begins", "(II)V"⟩
abbrev cX8_unlike : ByteArray := prog_10_method_24_code
def yX8_unlike : MethodName := ⟨RX8, "unlike", "(III)I"⟩
abbrev cX8_readWay : ByteArray := prog_10_method_25_code
def yX8_readWay : MethodName := ⟨RX8, "readWay", "()V"⟩
abbrev cX8_readHill : ByteArray := prog_10_method_26_code
def yX8_readHill : MethodName := ⟨RX8, "readHill", "()V"⟩
abbrev cX8_readPerson : ByteArray := prog_10_method_27_code
def yX8_readPerson : MethodName := ⟨RX8, "readPerson", "()V"⟩
abbrev cX8_isOwner : ByteArray := prog_10_method_28_code
def yX8_isOwner : MethodName := ⟨RX8, "isOwner", "(I)Z"⟩
abbrev cX8_readCar : ByteArray := prog_10_method_29_code
def yX8_readCar : MethodName := ⟨RX8, "readCar", "()V"⟩
abbrev cX8_readQuarrel : ByteArray := prog_10_method_30_code
def yX8_readQuarrel : MethodName := ⟨RX8, "readQuarrel", "()V"⟩
abbrev cX8_layFar : ByteArray := prog_10_method_31_code
def yX8_layFar : MethodName := ⟨RX8, "layFar", "()V"⟩
abbrev cX8_evening : ByteArray := prog_10_method_32_code
def yX8_evening : MethodName := ⟨RX8, "evening", "()I"⟩
abbrev cX8_fault : ByteArray := prog_10_method_33_code
def yX8_fault : MethodName := ⟨RX8, "fault", "()I"⟩
abbrev cX8_isPerson : ByteArray := prog_10_method_34_code
def yX8_isPerson : MethodName := ⟨RX8, "isPerson", "(I)Z"⟩
abbrev cX8_isCar : ByteArray := prog_10_method_35_code
def yX8_isCar : MethodName := ⟨RX8, "isCar", "(I)Z"⟩
abbrev cX8_isMinute : ByteArray := prog_10_method_36_code
def yX8_isMinute : MethodName := ⟨RX8, "isMinute", "(I)Z"⟩
abbrev cX8_of : ByteArray := prog_10_method_37_code
def yX8_of : MethodName := ⟨RX8, "of", "(II)I"⟩
abbrev cX8_car0 : ByteArray := prog_10_method_38_code
def yX8_car0 : MethodName := ⟨RX8, "car0", "(II)I"⟩
abbrev cX8_carOf : ByteArray := prog_10_method_39_code
def yX8_carOf : MethodName := ⟨RX8, "carOf", "(I)I"⟩
abbrev cX8_drink : ByteArray := prog_10_method_40_code
def yX8_drink : MethodName := ⟨RX8, "drink", "(II)I"⟩
abbrev cX8_undo : ByteArray := prog_10_method_41_code
def yX8_undo : MethodName := ⟨RX8, "undo", "()I"⟩
abbrev cX8_person : ByteArray := prog_10_method_42_code
def yX8_person : MethodName := ⟨RX8, "person", "(II)I"⟩
abbrev cX8_car : ByteArray := prog_10_method_43_code
def yX8_car : MethodName := ⟨RX8, "car", "(II)I"⟩
abbrev cX8_farOf : ByteArray := prog_10_method_44_code
def yX8_farOf : MethodName := ⟨RX8, "farOf", "(II)I"⟩
abbrev cX8_far : ByteArray := prog_10_method_45_code
def yX8_far : MethodName := ⟨RX8, "far", "(II)I"⟩
abbrev cX8_drunk : ByteArray := prog_10_method_46_code
def yX8_drunk : MethodName := ⟨RX8, "drunk", "(II)I"⟩
abbrev cX8_mayDrive : ByteArray := prog_10_method_47_code
def yX8_mayDrive : MethodName := ⟨RX8, "mayDrive", "(III)Z"⟩
abbrev cX8_may : ByteArray := prog_10_method_48_code
def yX8_may : MethodName := ⟨RX8, "may", "(III)I"⟩
abbrev cX8_soon : ByteArray := prog_10_method_49_code
def yX8_soon : MethodName := ⟨RX8, "soon", "(I)I"⟩
abbrev cX8_divisor : ByteArray := prog_10_method_50_code
def yX8_divisor : MethodName := ⟨RX8, "divisor", "(II)I"⟩
abbrev cX8_odds : ByteArray := prog_10_method_51_code
def yX8_odds : MethodName := ⟨RX8, "odds", "(IIII)I"⟩
abbrev cX8_isOnHill : ByteArray := prog_10_method_52_code
def yX8_isOnHill : MethodName := ⟨RX8, "isOnHill", "(I)Z"⟩
abbrev cX8_doesGo : ByteArray := prog_10_method_53_code
def yX8_doesGo : MethodName := ⟨RX8, "doesGo", "(II)Z"⟩
abbrev cX8_goingAt : ByteArray := prog_10_method_54_code
def yX8_goingAt : MethodName := ⟨RX8, "goingAt", "(I)I"⟩
abbrev cX8_goes : ByteArray := prog_10_method_55_code
def yX8_goes : MethodName := ⟨RX8, "goes", "(I)I"⟩
abbrev cX8_bits : ByteArray := prog_10_method_56_code
def yX8_bits : MethodName := ⟨RX8, "bits", "(I)I"⟩
abbrev cX8_fits : ByteArray := prog_10_method_57_code
def yX8_fits : MethodName := ⟨RX8, "fits", "(II)Z"⟩
abbrev cX8_minutesBy : ByteArray := prog_10_method_58_code
def yX8_minutesBy : MethodName := ⟨RX8, "minutesBy", "(II)I"⟩
abbrev cX8_layTried : ByteArray := prog_10_method_59_code
def yX8_layTried : MethodName := ⟨RX8, "layTried", "(II)Z"⟩
abbrev cX8_leastOf : ByteArray := prog_10_method_60_code
def yX8_leastOf : MethodName := ⟨RX8, "leastOf", "(II)I"⟩
abbrev cX8_layRiders : ByteArray := prog_10_method_61_code
def yX8_layRiders : MethodName := ⟨RX8, "layRiders", "()V"⟩
abbrev cX8_layTakes : ByteArray := prog_10_method_62_code
def yX8_layTakes : MethodName := ⟨RX8, "layTakes", "()V"⟩
abbrev cX8_layRow : ByteArray := prog_10_method_63_code
def yX8_layRow : MethodName := ⟨RX8, "layRow", "(I)V"⟩
abbrev cX8_sumOf : ByteArray := prog_10_method_64_code
def yX8_sumOf : MethodName := ⟨RX8, "sumOf", "()I"⟩
abbrev cX8_layHome : ByteArray := prog_10_method_65_code
def yX8_layHome : MethodName := ⟨RX8, "layHome", "(I)V"⟩
abbrev cX8_home : ByteArray := prog_10_method_66_code
def yX8_home : MethodName := ⟨RX8, "home", "(II)I"⟩
abbrev cX8_order : ByteArray := prog_10_method_67_code
def yX8_order : MethodName := ⟨RX8, "order", "(III)I"⟩
abbrev cX8_detour : ByteArray := prog_10_method_68_code
def yX8_detour : MethodName := ⟨RX8, "detour", "(II)I"⟩
abbrev cX8_fetch : ByteArray := prog_10_method_69_code
def yX8_fetch : MethodName := ⟨RX8, "fetch", "(I)I"⟩
abbrev cX8_allFar : ByteArray := prog_10_method_70_code
def yX8_allFar : MethodName := ⟨RX8, "allFar", "(I)I"⟩
abbrev cX8_house : ByteArray := prog_10_method_71_code
def yX8_house : MethodName := ⟨RX8, "house", "(I)I"⟩
abbrev cX8_lack : ByteArray := prog_10_method_72_code
def yX8_lack : MethodName := ⟨RX8, "lack", "(II)I"⟩
abbrev cX8_noTimes : ByteArray := prog_10_method_73_code
def yX8_noTimes : MethodName := ⟨RX8, "noTimes", "()V"⟩
abbrev cX8_turn : ByteArray := prog_10_method_74_code
def yX8_turn : MethodName := ⟨RX8, "turn", "(III)I"⟩
abbrev cX8_gloves : ByteArray := prog_10_method_75_code
def yX8_gloves : MethodName := ⟨RX8, "gloves", "(III)I"⟩
abbrev cX8_image : ByteArray := prog_10_method_76_code
def yX8_image : MethodName := ⟨RX8, "image", "(I)I"⟩
abbrev cX8_restore : ByteArray := prog_10_method_77_code
def yX8_restore : MethodName := ⟨RX8, "restore", "(I)I"⟩
abbrev cX8_isOf : ByteArray := prog_10_method_78_code
def yX8_isOf : MethodName := ⟨RX8, "isOf", "(II)Z"⟩
abbrev cX8_kind : ByteArray := prog_10_method_79_code
def yX8_kind : MethodName := ⟨RX8, "kind", "(I)I"⟩
abbrev cX8_as : ByteArray := prog_10_method_80_code
def yX8_as : MethodName := ⟨RX8, "as", "(II)I"⟩
abbrev cX8_began : ByteArray := prog_10_method_81_code
def yX8_began : MethodName := ⟨RX8, "began", "(I)V"⟩
abbrev cX8_plainSize : ByteArray := prog_10_method_82_code
def yX8_plainSize : MethodName := ⟨RX8, "plainSize", "(I)I"⟩
abbrev cX8_sickSize : ByteArray := prog_10_method_83_code
def yX8_sickSize : MethodName := ⟨RX8, "sickSize", "(I)I"⟩
abbrev cX8_markOf : ByteArray := prog_10_method_84_code
def yX8_markOf : MethodName := ⟨RX8, "markOf", "(I)I"⟩
abbrev cX8_sizeOf : ByteArray := prog_10_method_85_code
def yX8_sizeOf : MethodName := ⟨RX8, "sizeOf", "(I)I"⟩
abbrev cX8_ask : ByteArray := prog_10_method_86_code
def yX8_ask : MethodName := ⟨RX8, "ask", "(II)I"⟩
abbrev cX8_trace : ByteArray := prog_10_method_87_code
def yX8_trace : MethodName := ⟨RX8, "trace", "(I)I"⟩
abbrev cX8_count : ByteArray := prog_10_method_88_code
def yX8_count : MethodName := ⟨RX8, "count", "(I)I"⟩
abbrev cX8_status : ByteArray := prog_10_method_89_code
def yX8_status : MethodName := ⟨RX8, "status", "()I"⟩
def RJx145de : String := "java/io/Serializable"
def TJx145de : u_T := fun k => match k with
  | _ => ("", "", "", false)
def tyJx145de : Nat → FieldType := fun k => match k with
  | _ => .int
abbrev wsJx145de0 : List Cond := u_ws RJx145de TJx145de 0
theorem nmJx145de : ∀ a, a < 0 → ∀ b, b < 0 → a ≠ b → (TJx145de a).2.1 ≠ (TJx145de b).2.1 := by decide +kernel
theorem tyJx145de_ok : ∀ k, k < 0 → parseFieldDescriptor (TJx145de k).2.2.1 = some (tyJx145de k) := by decide +kernel
def RJx9f9b0 : String := "java/lang/CharSequence"
def TJx9f9b0 : u_T := fun k => match k with
  | _ => ("", "", "", false)
def tyJx9f9b0 : Nat → FieldType := fun k => match k with
  | _ => .int
abbrev wsJx9f9b00 : List Cond := u_ws RJx9f9b0 TJx9f9b0 0
theorem nmJx9f9b0 : ∀ a, a < 0 → ∀ b, b < 0 → a ≠ b → (TJx9f9b0 a).2.1 ≠ (TJx9f9b0 b).2.1 := by decide +kernel
theorem tyJx9f9b0_ok : ∀ k, k < 0 → parseFieldDescriptor (TJx9f9b0 k).2.2.1 = some (tyJx9f9b0 k) := by decide +kernel
def RJxb160c : String := "java/lang/Comparable"
def TJxb160c : u_T := fun k => match k with
  | _ => ("", "", "", false)
def tyJxb160c : Nat → FieldType := fun k => match k with
  | _ => .int
abbrev wsJxb160c0 : List Cond := u_ws RJxb160c TJxb160c 0
theorem nmJxb160c : ∀ a, a < 0 → ∀ b, b < 0 → a ≠ b → (TJxb160c a).2.1 ≠ (TJxb160c b).2.1 := by decide +kernel
theorem tyJxb160c_ok : ∀ k, k < 0 → parseFieldDescriptor (TJxb160c k).2.2.1 = some (tyJxb160c k) := by decide +kernel
def RJ6 : String := "java/lang/Integer"
def TJ6 : u_T := fun k => match k with
  | _ => ("", "", "", false)
def tyJ6 : Nat → FieldType := fun k => match k with
  | _ => .int
abbrev wsJ60 : List Cond := u_ws RJ6 TJ6 0
theorem nmJ6 : ∀ a, a < 0 → ∀ b, b < 0 → a ≠ b → (TJ6 a).2.1 ≠ (TJ6 b).2.1 := by decide +kernel
theorem tyJ6_ok : ∀ k, k < 0 → parseFieldDescriptor (TJ6 k).2.2.1 = some (tyJ6 k) := by decide +kernel
abbrev cJ6_bitCount_0f7a4 : ByteArray := prog_11_method_49_code
def yJ6_bitCount_0f7a4 : MethodName := ⟨RJ6, "bitCount", "(I)I"⟩
def RJ9 : String := "java/lang/Math"
def TJ9 : u_T := fun k => match k with
  | _ => ("", "", "", false)
def tyJ9 : Nat → FieldType := fun k => match k with
  | _ => .int
abbrev wsJ90 : List Cond := u_ws RJ9 TJ9 0
theorem nmJ9 : ∀ a, a < 0 → ∀ b, b < 0 → a ≠ b → (TJ9 a).2.1 ≠ (TJ9 b).2.1 := by decide +kernel
theorem tyJ9_ok : ∀ k, k < 0 → parseFieldDescriptor (TJ9 k).2.2.1 = some (tyJ9 k) := by decide +kernel
abbrev cJ9_max_7cf53 : ByteArray := prog_12_method_65_code
def yJ9_max_7cf53 : MethodName := ⟨RJ9, "max", "(II)I"⟩
abbrev cJ9_min_7cf53 : ByteArray := prog_12_method_69_code
def yJ9_min_7cf53 : MethodName := ⟨RJ9, "min", "(II)I"⟩
def RJ0 : String := "java/lang/String"
def TJ0 : u_T := fun k => match k with
  | _ => ("", "", "", false)
def tyJ0 : Nat → FieldType := fun k => match k with
  | _ => .int
abbrev wsJ00 : List Cond := u_ws RJ0 TJ0 0
theorem nmJ0 : ∀ a, a < 0 → ∀ b, b < 0 → a ≠ b → (TJ0 a).2.1 ≠ (TJ0 b).2.1 := by decide +kernel
theorem tyJ0_ok : ∀ k, k < 0 → parseFieldDescriptor (TJ0 k).2.2.1 = some (tyJ0 k) := by decide +kernel
abbrev cJ0_length_8abf5 : ByteArray := prog_13_method_54_code
def yJ0_length_8abf5 : MethodName := ⟨RJ0, "length", "()I"⟩
abbrev cJ0_charAt_5068e : ByteArray := prog_13_method_56_code
def yJ0_charAt_5068e : MethodName := ⟨RJ0, "charAt", "(I)C"⟩
abbrev cJ0_coder_7d493 : ByteArray := prog_13_method_152_code
def yJ0_coder_7d493 : MethodName := ⟨RJ0, "coder", "()B"⟩
abbrev cJ0_isLatin1_aae02 : ByteArray := prog_13_method_154_code
def yJ0_isLatin1_aae02 : MethodName := ⟨RJ0, "isLatin1", "()Z"⟩
abbrev cJ0_checkIndex_df160 : ByteArray := prog_13_method_155_code
def yJ0_checkIndex_df160 : MethodName := ⟨RJ0, "checkIndex", "(II)V"⟩
def RJ1 : String := "java/lang/StringLatin1"
def TJ1 : u_T := fun k => match k with
  | _ => ("", "", "", false)
def tyJ1 : Nat → FieldType := fun k => match k with
  | _ => .int
abbrev wsJ10 : List Cond := u_ws RJ1 TJ1 0
theorem nmJ1 : ∀ a, a < 0 → ∀ b, b < 0 → a ≠ b → (TJ1 a).2.1 ≠ (TJ1 b).2.1 := by decide +kernel
theorem tyJ1_ok : ∀ k, k < 0 → parseFieldDescriptor (TJ1 k).2.2.1 = some (tyJ1 k) := by decide +kernel
abbrev cJ1_charAt_3b067 : ByteArray := prog_14_method_2_code
def yJ1_charAt_3b067 : MethodName := ⟨RJ1, "charAt", "([BI)C"⟩
def RJ2 : String := "java/lang/StringUTF16"
def TJ2 : u_T := fun k => match k with
  | _ => ("", "", "", false)
def tyJ2 : Nat → FieldType := fun k => match k with
  | _ => .int
abbrev wsJ20 : List Cond := u_ws RJ2 TJ2 0
theorem nmJ2 : ∀ a, a < 0 → ∀ b, b < 0 → a ≠ b → (TJ2 a).2.1 ≠ (TJ2 b).2.1 := by decide +kernel
theorem tyJ2_ok : ∀ k, k < 0 → parseFieldDescriptor (TJ2 k).2.2.1 = some (tyJ2 k) := by decide +kernel
abbrev cJ2_getChar_3b067 : ByteArray := prog_15_method_5_code
def yJ2_getChar_3b067 : MethodName := ⟨RJ2, "getChar", "([BI)C"⟩
abbrev cJ2_length_9d52b : ByteArray := prog_15_method_6_code
def yJ2_length_9d52b : MethodName := ⟨RJ2, "length", "([B)I"⟩
abbrev cJ2_charAt_3b067 : ByteArray := prog_15_method_83_code
def yJ2_charAt_3b067 : MethodName := ⟨RJ2, "charAt", "([BI)C"⟩
abbrev cJ2_checkIndex_2214a : ByteArray := prog_15_method_91_code
def yJ2_checkIndex_2214a : MethodName := ⟨RJ2, "checkIndex", "(I[B)V"⟩
def RJ10 : String := "java/lang/System"
def TJ10 : u_T := fun k => match k with
  | _ => ("", "", "", false)
def tyJ10 : Nat → FieldType := fun k => match k with
  | _ => .int
abbrev wsJ100 : List Cond := u_ws RJ10 TJ10 0
theorem nmJ10 : ∀ a, a < 0 → ∀ b, b < 0 → a ≠ b → (TJ10 a).2.1 ≠ (TJ10 b).2.1 := by decide +kernel
theorem tyJ10_ok : ∀ k, k < 0 → parseFieldDescriptor (TJ10 k).2.2.1 = some (tyJ10 k) := by decide +kernel
def RJxfd54e : String := "java/lang/constant/Constable"
def TJxfd54e : u_T := fun k => match k with
  | _ => ("", "", "", false)
def tyJxfd54e : Nat → FieldType := fun k => match k with
  | _ => .int
abbrev wsJxfd54e0 : List Cond := u_ws RJxfd54e TJxfd54e 0
theorem nmJxfd54e : ∀ a, a < 0 → ∀ b, b < 0 → a ≠ b → (TJxfd54e a).2.1 ≠ (TJxfd54e b).2.1 := by decide +kernel
theorem tyJxfd54e_ok : ∀ k, k < 0 → parseFieldDescriptor (TJxfd54e k).2.2.1 = some (tyJxfd54e k) := by decide +kernel
def RJx3cf43 : String := "java/lang/constant/ConstantDesc"
def TJx3cf43 : u_T := fun k => match k with
  | _ => ("", "", "", false)
def tyJx3cf43 : Nat → FieldType := fun k => match k with
  | _ => .int
abbrev wsJx3cf430 : List Cond := u_ws RJx3cf43 TJx3cf43 0
theorem nmJx3cf43 : ∀ a, a < 0 → ∀ b, b < 0 → a ≠ b → (TJx3cf43 a).2.1 ≠ (TJx3cf43 b).2.1 := by decide +kernel
theorem tyJx3cf43_ok : ∀ k, k < 0 → parseFieldDescriptor (TJx3cf43 k).2.2.1 = some (tyJx3cf43 k) := by decide +kernel
def RJ7 : String := "java/util/Arrays"
def TJ7 : u_T := fun k => match k with
  | _ => ("", "", "", false)
def tyJ7 : Nat → FieldType := fun k => match k with
  | _ => .int
abbrev wsJ70 : List Cond := u_ws RJ7 TJ7 0
theorem nmJ7 : ∀ a, a < 0 → ∀ b, b < 0 → a ≠ b → (TJ7 a).2.1 ≠ (TJ7 b).2.1 := by decide +kernel
theorem tyJ7_ok : ∀ k, k < 0 → parseFieldDescriptor (TJ7 k).2.2.1 = some (tyJ7 k) := by decide +kernel
abbrev cJ7_fill_53178 : ByteArray := prog_17_method_103_code
def yJ7_fill_53178 : MethodName := ⟨RJ7, "fill", "([II)V"⟩
def RJ3 : String := "jdk/internal/util/Preconditions"
def TJ3 : u_T := fun k => match k with
  | _ => ("", "", "", false)
def tyJ3 : Nat → FieldType := fun k => match k with
  | _ => .int
abbrev wsJ30 : List Cond := u_ws RJ3 TJ3 0
theorem nmJ3 : ∀ a, a < 0 → ∀ b, b < 0 → a ≠ b → (TJ3 a).2.1 ≠ (TJ3 b).2.1 := by decide +kernel
theorem tyJ3_ok : ∀ k, k < 0 → parseFieldDescriptor (TJ3 k).2.2.1 = some (tyJ3 k) := by decide +kernel
abbrev cJ3_checkIndex_8e157 : ByteArray := prog_18_method_11_code
def yJ3_checkIndex_8e157 : MethodName := ⟨RJ3, "checkIndex", "(IILjava/util/function/BiFunction;)I"⟩
def RL : String := "HomeDrivesLaw"
abbrev cL_law : ByteArray := code
def yL_law : MethodName := ⟨RL, "law", "([I)Z"⟩
abbrev vwCl : List vw_C := [(RX0, TX0, 2), (RX1, TX1, 2), (RX2, TX2, 3), (RX3, TX3, 18), (RX4, TX4, 12), (RX5, TX5, 9), (RX6, TX6, 3), (RX7, TX7, 10), (RX8, TX8, 37)]
