/-- a private method of a class that the tables say can be made, by its rows of tables_1 -/
def lw_okq (q : MethodName × Nat) : Prop := (q.1.cls ≠ "java/lang/invoke/MethodHandle" ∧ q.1.cls ≠ "java/lang/invoke/VarHandle") ∧ Cond.instantiable q.1.cls q.2 ∈ tables_1 ∧ Cond.privateMethod q.1 ∈ tables_1 ∧ Cond.instanceMethod q.1 ∈ tables_1
theorem lw_p0 : lw_okq (⟨"LogRaft", "change", "(LLogRaft$Word;II)I"⟩, 9) := ⟨⟨by decide +kernel, by decide +kernel⟩, List.mem_of_getElem? (i := 24) (by decide +kernel), List.mem_of_getElem? (i := 425) (by decide +kernel), List.mem_of_getElem? (i := 426) (by decide +kernel)⟩
theorem lw_p1 : lw_okq (⟨"LogRaft", "carryOut", "(LLogRaft$Word;II)I"⟩, 9) := ⟨⟨by decide +kernel, by decide +kernel⟩, List.mem_of_getElem? (i := 24) (by decide +kernel), List.mem_of_getElem? (i := 441) (by decide +kernel), List.mem_of_getElem? (i := 442) (by decide +kernel)⟩
theorem lw_p2 : lw_okq (⟨"LogRaft", "letCome", "(I)I"⟩, 9) := ⟨⟨by decide +kernel, by decide +kernel⟩, List.mem_of_getElem? (i := 24) (by decide +kernel), List.mem_of_getElem? (i := 453) (by decide +kernel), List.mem_of_getElem? (i := 454) (by decide +kernel)⟩
theorem lw_p3 : lw_okq (⟨"LogRaft", "refuse", "(II)I"⟩, 9) := ⟨⟨by decide +kernel, by decide +kernel⟩, List.mem_of_getElem? (i := 24) (by decide +kernel), List.mem_of_getElem? (i := 457) (by decide +kernel), List.mem_of_getElem? (i := 458) (by decide +kernel)⟩
theorem lw_p4 : lw_okq (⟨"LogRaft", "letAsk", "(I)I"⟩, 9) := ⟨⟨by decide +kernel, by decide +kernel⟩, List.mem_of_getElem? (i := 24) (by decide +kernel), List.mem_of_getElem? (i := 473) (by decide +kernel), List.mem_of_getElem? (i := 474) (by decide +kernel)⟩
theorem lw_p5 : lw_okq (⟨"LogRaft$Raft", "beginAsking", "(LLogRaft$Driver;I)V"⟩, 10) := ⟨⟨by decide +kernel, by decide +kernel⟩, List.mem_of_getElem? (i := 32) (by decide +kernel), List.mem_of_getElem? (i := 485) (by decide +kernel), List.mem_of_getElem? (i := 486) (by decide +kernel)⟩
theorem lw_p6 : lw_okq (⟨"LogRaft$Raft", "letVote", "(LLogRaft$Driver;I)I"⟩, 10) := ⟨⟨by decide +kernel, by decide +kernel⟩, List.mem_of_getElem? (i := 32) (by decide +kernel), List.mem_of_getElem? (i := 501) (by decide +kernel), List.mem_of_getElem? (i := 502) (by decide +kernel)⟩
theorem lw_p7 : lw_okq (⟨"LogRaft", "letSend", "(I)I"⟩, 9) := ⟨⟨by decide +kernel, by decide +kernel⟩, List.mem_of_getElem? (i := 24) (by decide +kernel), List.mem_of_getElem? (i := 513) (by decide +kernel), List.mem_of_getElem? (i := 514) (by decide +kernel)⟩
theorem lw_p8 : lw_okq (⟨"LogRaft", "letShout", "(II)I"⟩, 9) := ⟨⟨by decide +kernel, by decide +kernel⟩, List.mem_of_getElem? (i := 24) (by decide +kernel), List.mem_of_getElem? (i := 536) (by decide +kernel), List.mem_of_getElem? (i := 537) (by decide +kernel)⟩
theorem lw_p9 : lw_okq (⟨"LogRaft", "washAway", "(I)I"⟩, 9) := ⟨⟨by decide +kernel, by decide +kernel⟩, List.mem_of_getElem? (i := 24) (by decide +kernel), List.mem_of_getElem? (i := 544) (by decide +kernel), List.mem_of_getElem? (i := 545) (by decide +kernel)⟩
theorem lw_p10 : lw_okq (⟨"LogRaft", "bringBack", "(I)I"⟩, 9) := ⟨⟨by decide +kernel, by decide +kernel⟩, List.mem_of_getElem? (i := 24) (by decide +kernel), List.mem_of_getElem? (i := 552) (by decide +kernel), List.mem_of_getElem? (i := 553) (by decide +kernel)⟩
theorem lw_p11 : lw_okq (⟨"LogRaft", "changeRope", "(IIZ)I"⟩, 9) := ⟨⟨by decide +kernel, by decide +kernel⟩, List.mem_of_getElem? (i := 24) (by decide +kernel), List.mem_of_getElem? (i := 556) (by decide +kernel), List.mem_of_getElem? (i := 557) (by decide +kernel)⟩
theorem lw_p12 : lw_okq (⟨"LogRaft$Text", "takeCommand", "()Z"⟩, 4) := ⟨⟨by decide +kernel, by decide +kernel⟩, List.mem_of_getElem? (i := 189) (by decide +kernel), List.mem_of_getElem? (i := 646) (by decide +kernel), List.mem_of_getElem? (i := 647) (by decide +kernel)⟩
theorem lw_p13 : lw_okq (⟨"LogRaft$Text", "takeWord", "()LLogRaft$Word;"⟩, 4) := ⟨⟨by decide +kernel, by decide +kernel⟩, List.mem_of_getElem? (i := 189) (by decide +kernel), List.mem_of_getElem? (i := 650) (by decide +kernel), List.mem_of_getElem? (i := 651) (by decide +kernel)⟩
theorem lw_p14 : lw_okq (⟨"LogRaft$Text", "countFitting", "(Ljava/lang/String;)I"⟩, 4) := ⟨⟨by decide +kernel, by decide +kernel⟩, List.mem_of_getElem? (i := 189) (by decide +kernel), List.mem_of_getElem? (i := 656) (by decide +kernel), List.mem_of_getElem? (i := 657) (by decide +kernel)⟩
theorem lw_p15 : lw_okq (⟨"LogRaft$Text", "isHere", "(IC)Z"⟩, 4) := ⟨⟨by decide +kernel, by decide +kernel⟩, List.mem_of_getElem? (i := 189) (by decide +kernel), List.mem_of_getElem? (i := 687) (by decide +kernel), List.mem_of_getElem? (i := 688) (by decide +kernel)⟩
def lw_privs_1 : List (MethodName × Nat) := [(⟨"LogRaft", "change", "(LLogRaft$Word;II)I"⟩, 9), (⟨"LogRaft", "carryOut", "(LLogRaft$Word;II)I"⟩, 9), (⟨"LogRaft", "letCome", "(I)I"⟩, 9), (⟨"LogRaft", "refuse", "(II)I"⟩, 9), (⟨"LogRaft", "letAsk", "(I)I"⟩, 9), (⟨"LogRaft$Raft", "beginAsking", "(LLogRaft$Driver;I)V"⟩, 10), (⟨"LogRaft$Raft", "letVote", "(LLogRaft$Driver;I)I"⟩, 10), (⟨"LogRaft", "letSend", "(I)I"⟩, 9), (⟨"LogRaft", "letShout", "(II)I"⟩, 9), (⟨"LogRaft", "washAway", "(I)I"⟩, 9), (⟨"LogRaft", "bringBack", "(I)I"⟩, 9), (⟨"LogRaft", "changeRope", "(IIZ)I"⟩, 9), (⟨"LogRaft$Text", "takeCommand", "()Z"⟩, 4), (⟨"LogRaft$Text", "takeWord", "()LLogRaft$Word;"⟩, 4), (⟨"LogRaft$Text", "countFitting", "(Ljava/lang/String;)I"⟩, 4), (⟨"LogRaft$Text", "isHere", "(IC)Z"⟩, 4)]
theorem lw_r1 : ∀ q ∈ lw_privs_1, lw_okq q := List.forall_mem_cons.mpr ⟨lw_p0, List.forall_mem_cons.mpr ⟨lw_p1, List.forall_mem_cons.mpr ⟨lw_p2, List.forall_mem_cons.mpr ⟨lw_p3, List.forall_mem_cons.mpr ⟨lw_p4, List.forall_mem_cons.mpr ⟨lw_p5, List.forall_mem_cons.mpr ⟨lw_p6, List.forall_mem_cons.mpr ⟨lw_p7, List.forall_mem_cons.mpr ⟨lw_p8, List.forall_mem_cons.mpr ⟨lw_p9, List.forall_mem_cons.mpr ⟨lw_p10, List.forall_mem_cons.mpr ⟨lw_p11, List.forall_mem_cons.mpr ⟨lw_p12, List.forall_mem_cons.mpr ⟨lw_p13, List.forall_mem_cons.mpr ⟨lw_p14, List.forall_mem_cons.mpr ⟨lw_p15, fun _ h => absurd h List.not_mem_nil⟩⟩⟩⟩⟩⟩⟩⟩⟩⟩⟩⟩⟩⟩⟩⟩
theorem lw_p16 : lw_okq (⟨"LogRaft$Text", "takeArguments", "(LLogRaft$Command;)Z"⟩, 4) := ⟨⟨by decide +kernel, by decide +kernel⟩, List.mem_of_getElem? (i := 189) (by decide +kernel), List.mem_of_getElem? (i := 702) (by decide +kernel), List.mem_of_getElem? (i := 703) (by decide +kernel)⟩
theorem lw_p17 : lw_okq (⟨"LogRaft$Text", "takeFirst", "(LLogRaft$Command;)Z"⟩, 4) := ⟨⟨by decide +kernel, by decide +kernel⟩, List.mem_of_getElem? (i := 189) (by decide +kernel), List.mem_of_getElem? (i := 708) (by decide +kernel), List.mem_of_getElem? (i := 709) (by decide +kernel)⟩
theorem lw_p18 : lw_okq (⟨"LogRaft$Text", "takeDigit", "()I"⟩, 4) := ⟨⟨by decide +kernel, by decide +kernel⟩, List.mem_of_getElem? (i := 189) (by decide +kernel), List.mem_of_getElem? (i := 712) (by decide +kernel), List.mem_of_getElem? (i := 713) (by decide +kernel)⟩
theorem lw_p19 : lw_okq (⟨"LogRaft$Text", "takeBetween", "(CC)I"⟩, 4) := ⟨⟨by decide +kernel, by decide +kernel⟩, List.mem_of_getElem? (i := 189) (by decide +kernel), List.mem_of_getElem? (i := 716) (by decide +kernel), List.mem_of_getElem? (i := 717) (by decide +kernel)⟩
theorem lw_p20 : lw_okq (⟨"LogRaft$Text", "takeSign", "(C)Z"⟩, 4) := ⟨⟨by decide +kernel, by decide +kernel⟩, List.mem_of_getElem? (i := 189) (by decide +kernel), List.mem_of_getElem? (i := 720) (by decide +kernel), List.mem_of_getElem? (i := 721) (by decide +kernel)⟩
theorem lw_p21 : lw_okq (⟨"LogRaft$Text", "takeLetter", "(LLogRaft$Command;)Z"⟩, 4) := ⟨⟨by decide +kernel, by decide +kernel⟩, List.mem_of_getElem? (i := 189) (by decide +kernel), List.mem_of_getElem? (i := 724) (by decide +kernel), List.mem_of_getElem? (i := 725) (by decide +kernel)⟩
theorem lw_p22 : lw_okq (⟨"LogRaft$Text", "takeSecond", "(LLogRaft$Command;)Z"⟩, 4) := ⟨⟨by decide +kernel, by decide +kernel⟩, List.mem_of_getElem? (i := 189) (by decide +kernel), List.mem_of_getElem? (i := 728) (by decide +kernel), List.mem_of_getElem? (i := 729) (by decide +kernel)⟩
theorem lw_p23 : lw_okq (⟨"LogRaft", "refuseCommand", "(II)I"⟩, 9) := ⟨⟨by decide +kernel, by decide +kernel⟩, List.mem_of_getElem? (i := 24) (by decide +kernel), List.mem_of_getElem? (i := 756) (by decide +kernel), List.mem_of_getElem? (i := 757) (by decide +kernel)⟩
theorem lw_p24 : lw_okq (⟨"LogRaft", "codeOfAsking", "(I)I"⟩, 9) := ⟨⟨by decide +kernel, by decide +kernel⟩, List.mem_of_getElem? (i := 24) (by decide +kernel), List.mem_of_getElem? (i := 811) (by decide +kernel), List.mem_of_getElem? (i := 812) (by decide +kernel)⟩
theorem lw_p25 : lw_okq (⟨"LogRaft$Raft", "isRankedAhead", "(II)Z"⟩, 10) := ⟨⟨by decide +kernel, by decide +kernel⟩, List.mem_of_getElem? (i := 32) (by decide +kernel), List.mem_of_getElem? (i := 869) (by decide +kernel), List.mem_of_getElem? (i := 870) (by decide +kernel)⟩
theorem lw_p26 : lw_okq (⟨"LogRaftModel", "keeps", "()V"⟩, 20) := ⟨⟨by decide +kernel, by decide +kernel⟩, List.mem_of_getElem? (i := 995) (by decide +kernel), List.mem_of_getElem? (i := 1070) (by decide +kernel), List.mem_of_getElem? (i := 1071) (by decide +kernel)⟩
theorem lw_p27 : lw_okq (⟨"LogRaftModel", "comes", "(I)I"⟩, 20) := ⟨⟨by decide +kernel, by decide +kernel⟩, List.mem_of_getElem? (i := 995) (by decide +kernel), List.mem_of_getElem? (i := 1077) (by decide +kernel), List.mem_of_getElem? (i := 1078) (by decide +kernel)⟩
theorem lw_p28 : lw_okq (⟨"LogRaftModel", "isRefused", "(ZII)Z"⟩, 20) := ⟨⟨by decide +kernel, by decide +kernel⟩, List.mem_of_getElem? (i := 995) (by decide +kernel), List.mem_of_getElem? (i := 1084) (by decide +kernel), List.mem_of_getElem? (i := 1085) (by decide +kernel)⟩
theorem lw_p29 : lw_okq (⟨"LogRaftModel", "sets", "(III)V"⟩, 20) := ⟨⟨by decide +kernel, by decide +kernel⟩, List.mem_of_getElem? (i := 995) (by decide +kernel), List.mem_of_getElem? (i := 1088) (by decide +kernel), List.mem_of_getElem? (i := 1089) (by decide +kernel)⟩
theorem lw_p30 : lw_okq (⟨"LogRaftModel", "ends", "(I)I"⟩, 20) := ⟨⟨by decide +kernel, by decide +kernel⟩, List.mem_of_getElem? (i := 995) (by decide +kernel), List.mem_of_getElem? (i := 1095) (by decide +kernel), List.mem_of_getElem? (i := 1096) (by decide +kernel)⟩
theorem lw_p31 : lw_okq (⟨"LogRaftModel", "changed", "()V"⟩, 20) := ⟨⟨by decide +kernel, by decide +kernel⟩, List.mem_of_getElem? (i := 995) (by decide +kernel), List.mem_of_getElem? (i := 1099) (by decide +kernel), List.mem_of_getElem? (i := 1100) (by decide +kernel)⟩
def lw_privs_2 : List (MethodName × Nat) := [(⟨"LogRaft$Text", "takeArguments", "(LLogRaft$Command;)Z"⟩, 4), (⟨"LogRaft$Text", "takeFirst", "(LLogRaft$Command;)Z"⟩, 4), (⟨"LogRaft$Text", "takeDigit", "()I"⟩, 4), (⟨"LogRaft$Text", "takeBetween", "(CC)I"⟩, 4), (⟨"LogRaft$Text", "takeSign", "(C)Z"⟩, 4), (⟨"LogRaft$Text", "takeLetter", "(LLogRaft$Command;)Z"⟩, 4), (⟨"LogRaft$Text", "takeSecond", "(LLogRaft$Command;)Z"⟩, 4), (⟨"LogRaft", "refuseCommand", "(II)I"⟩, 9), (⟨"LogRaft", "codeOfAsking", "(I)I"⟩, 9), (⟨"LogRaft$Raft", "isRankedAhead", "(II)Z"⟩, 10), (⟨"LogRaftModel", "keeps", "()V"⟩, 20), (⟨"LogRaftModel", "comes", "(I)I"⟩, 20), (⟨"LogRaftModel", "isRefused", "(ZII)Z"⟩, 20), (⟨"LogRaftModel", "sets", "(III)V"⟩, 20), (⟨"LogRaftModel", "ends", "(I)I"⟩, 20), (⟨"LogRaftModel", "changed", "()V"⟩, 20)]
theorem lw_r2 : ∀ q ∈ lw_privs_2, lw_okq q := List.forall_mem_cons.mpr ⟨lw_p16, List.forall_mem_cons.mpr ⟨lw_p17, List.forall_mem_cons.mpr ⟨lw_p18, List.forall_mem_cons.mpr ⟨lw_p19, List.forall_mem_cons.mpr ⟨lw_p20, List.forall_mem_cons.mpr ⟨lw_p21, List.forall_mem_cons.mpr ⟨lw_p22, List.forall_mem_cons.mpr ⟨lw_p23, List.forall_mem_cons.mpr ⟨lw_p24, List.forall_mem_cons.mpr ⟨lw_p25, List.forall_mem_cons.mpr ⟨lw_p26, List.forall_mem_cons.mpr ⟨lw_p27, List.forall_mem_cons.mpr ⟨lw_p28, List.forall_mem_cons.mpr ⟨lw_p29, List.forall_mem_cons.mpr ⟨lw_p30, List.forall_mem_cons.mpr ⟨lw_p31, fun _ h => absurd h List.not_mem_nil⟩⟩⟩⟩⟩⟩⟩⟩⟩⟩⟩⟩⟩⟩⟩⟩
theorem lw_p32 : lw_okq (⟨"LogRaftModel", "asks", "(I)I"⟩, 20) := ⟨⟨by decide +kernel, by decide +kernel⟩, List.mem_of_getElem? (i := 995) (by decide +kernel), List.mem_of_getElem? (i := 1107) (by decide +kernel), List.mem_of_getElem? (i := 1108) (by decide +kernel)⟩
theorem lw_p33 : lw_okq (⟨"LogRaftModel", "isDriver", "(I)Z"⟩, 20) := ⟨⟨by decide +kernel, by decide +kernel⟩, List.mem_of_getElem? (i := 995) (by decide +kernel), List.mem_of_getElem? (i := 1111) (by decide +kernel), List.mem_of_getElem? (i := 1112) (by decide +kernel)⟩
theorem lw_p34 : lw_okq (⟨"LogRaftModel", "isWashed", "(I)Z"⟩, 20) := ⟨⟨by decide +kernel, by decide +kernel⟩, List.mem_of_getElem? (i := 995) (by decide +kernel), List.mem_of_getElem? (i := 1115) (by decide +kernel), List.mem_of_getElem? (i := 1116) (by decide +kernel)⟩
theorem lw_p35 : lw_okq (⟨"LogRaftModel", "isAboard", "(I)Z"⟩, 20) := ⟨⟨by decide +kernel, by decide +kernel⟩, List.mem_of_getElem? (i := 995) (by decide +kernel), List.mem_of_getElem? (i := 1119) (by decide +kernel), List.mem_of_getElem? (i := 1120) (by decide +kernel)⟩
theorem lw_p36 : lw_okq (⟨"LogRaftModel", "of", "(II)I"⟩, 20) := ⟨⟨by decide +kernel, by decide +kernel⟩, List.mem_of_getElem? (i := 995) (by decide +kernel), List.mem_of_getElem? (i := 1123) (by decide +kernel), List.mem_of_getElem? (i := 1124) (by decide +kernel)⟩
theorem lw_p37 : lw_okq (⟨"LogRaftModel", "asksNow", "(I)I"⟩, 20) := ⟨⟨by decide +kernel, by decide +kernel⟩, List.mem_of_getElem? (i := 995) (by decide +kernel), List.mem_of_getElem? (i := 1127) (by decide +kernel), List.mem_of_getElem? (i := 1128) (by decide +kernel)⟩
theorem lw_p38 : lw_okq (⟨"LogRaftModel", "isReached", "(II)Z"⟩, 20) := ⟨⟨by decide +kernel, by decide +kernel⟩, List.mem_of_getElem? (i := 995) (by decide +kernel), List.mem_of_getElem? (i := 1131) (by decide +kernel), List.mem_of_getElem? (i := 1132) (by decide +kernel)⟩
theorem lw_p39 : lw_okq (⟨"LogRaftModel", "ropeAt", "(II)I"⟩, 20) := ⟨⟨by decide +kernel, by decide +kernel⟩, List.mem_of_getElem? (i := 995) (by decide +kernel), List.mem_of_getElem? (i := 1135) (by decide +kernel), List.mem_of_getElem? (i := 1136) (by decide +kernel)⟩
theorem lw_p40 : lw_okq (⟨"LogRaftModel", "takesOver", "(II)V"⟩, 20) := ⟨⟨by decide +kernel, by decide +kernel⟩, List.mem_of_getElem? (i := 995) (by decide +kernel), List.mem_of_getElem? (i := 1145) (by decide +kernel), List.mem_of_getElem? (i := 1146) (by decide +kernel)⟩
theorem lw_p41 : lw_okq (⟨"LogRaftModel", "votes", "(II)Z"⟩, 20) := ⟨⟨by decide +kernel, by decide +kernel⟩, List.mem_of_getElem? (i := 995) (by decide +kernel), List.mem_of_getElem? (i := 1149) (by decide +kernel), List.mem_of_getElem? (i := 1150) (by decide +kernel)⟩
theorem lw_p42 : lw_okq (⟨"LogRaftModel", "longerOf", "(II)I"⟩, 20) := ⟨⟨by decide +kernel, by decide +kernel⟩, List.mem_of_getElem? (i := 995) (by decide +kernel), List.mem_of_getElem? (i := 1153) (by decide +kernel), List.mem_of_getElem? (i := 1154) (by decide +kernel)⟩
theorem lw_p43 : lw_okq (⟨"LogRaftModel", "lastTerm", "(I)I"⟩, 20) := ⟨⟨by decide +kernel, by decide +kernel⟩, List.mem_of_getElem? (i := 995) (by decide +kernel), List.mem_of_getElem? (i := 1157) (by decide +kernel), List.mem_of_getElem? (i := 1158) (by decide +kernel)⟩
theorem lw_p44 : lw_okq (⟨"LogRaftModel", "isMajority", "(I)Z"⟩, 20) := ⟨⟨by decide +kernel, by decide +kernel⟩, List.mem_of_getElem? (i := 995) (by decide +kernel), List.mem_of_getElem? (i := 1161) (by decide +kernel), List.mem_of_getElem? (i := 1162) (by decide +kernel)⟩
theorem lw_p45 : lw_okq (⟨"LogRaftModel", "sends", "(I)I"⟩, 20) := ⟨⟨by decide +kernel, by decide +kernel⟩, List.mem_of_getElem? (i := 995) (by decide +kernel), List.mem_of_getElem? (i := 1169) (by decide +kernel), List.mem_of_getElem? (i := 1170) (by decide +kernel)⟩
theorem lw_p46 : lw_okq (⟨"LogRaftModel", "isNoLeader", "(I)Z"⟩, 20) := ⟨⟨by decide +kernel, by decide +kernel⟩, List.mem_of_getElem? (i := 995) (by decide +kernel), List.mem_of_getElem? (i := 1173) (by decide +kernel), List.mem_of_getElem? (i := 1174) (by decide +kernel)⟩
theorem lw_p47 : lw_okq (⟨"LogRaftModel", "sendsNow", "(I)I"⟩, 20) := ⟨⟨by decide +kernel, by decide +kernel⟩, List.mem_of_getElem? (i := 995) (by decide +kernel), List.mem_of_getElem? (i := 1177) (by decide +kernel), List.mem_of_getElem? (i := 1178) (by decide +kernel)⟩
def lw_privs_3 : List (MethodName × Nat) := [(⟨"LogRaftModel", "asks", "(I)I"⟩, 20), (⟨"LogRaftModel", "isDriver", "(I)Z"⟩, 20), (⟨"LogRaftModel", "isWashed", "(I)Z"⟩, 20), (⟨"LogRaftModel", "isAboard", "(I)Z"⟩, 20), (⟨"LogRaftModel", "of", "(II)I"⟩, 20), (⟨"LogRaftModel", "asksNow", "(I)I"⟩, 20), (⟨"LogRaftModel", "isReached", "(II)Z"⟩, 20), (⟨"LogRaftModel", "ropeAt", "(II)I"⟩, 20), (⟨"LogRaftModel", "takesOver", "(II)V"⟩, 20), (⟨"LogRaftModel", "votes", "(II)Z"⟩, 20), (⟨"LogRaftModel", "longerOf", "(II)I"⟩, 20), (⟨"LogRaftModel", "lastTerm", "(I)I"⟩, 20), (⟨"LogRaftModel", "isMajority", "(I)Z"⟩, 20), (⟨"LogRaftModel", "sends", "(I)I"⟩, 20), (⟨"LogRaftModel", "isNoLeader", "(I)Z"⟩, 20), (⟨"LogRaftModel", "sendsNow", "(I)I"⟩, 20)]
theorem lw_r3 : ∀ q ∈ lw_privs_3, lw_okq q := List.forall_mem_cons.mpr ⟨lw_p32, List.forall_mem_cons.mpr ⟨lw_p33, List.forall_mem_cons.mpr ⟨lw_p34, List.forall_mem_cons.mpr ⟨lw_p35, List.forall_mem_cons.mpr ⟨lw_p36, List.forall_mem_cons.mpr ⟨lw_p37, List.forall_mem_cons.mpr ⟨lw_p38, List.forall_mem_cons.mpr ⟨lw_p39, List.forall_mem_cons.mpr ⟨lw_p40, List.forall_mem_cons.mpr ⟨lw_p41, List.forall_mem_cons.mpr ⟨lw_p42, List.forall_mem_cons.mpr ⟨lw_p43, List.forall_mem_cons.mpr ⟨lw_p44, List.forall_mem_cons.mpr ⟨lw_p45, List.forall_mem_cons.mpr ⟨lw_p46, List.forall_mem_cons.mpr ⟨lw_p47, fun _ h => absurd h List.not_mem_nil⟩⟩⟩⟩⟩⟩⟩⟩⟩⟩⟩⟩⟩⟩⟩⟩
theorem lw_p48 : lw_okq (⟨"LogRaftModel", "gets", "(II)V"⟩, 20) := ⟨⟨by decide +kernel, by decide +kernel⟩, List.mem_of_getElem? (i := 995) (by decide +kernel), List.mem_of_getElem? (i := 1181) (by decide +kernel), List.mem_of_getElem? (i := 1182) (by decide +kernel)⟩
theorem lw_p49 : lw_okq (⟨"LogRaftModel", "alikeTo", "(II)I"⟩, 20) := ⟨⟨by decide +kernel, by decide +kernel⟩, List.mem_of_getElem? (i := 995) (by decide +kernel), List.mem_of_getElem? (i := 1185) (by decide +kernel), List.mem_of_getElem? (i := 1186) (by decide +kernel)⟩
theorem lw_p50 : lw_okq (⟨"LogRaftModel", "lastOwn", "(I)I"⟩, 20) := ⟨⟨by decide +kernel, by decide +kernel⟩, List.mem_of_getElem? (i := 995) (by decide +kernel), List.mem_of_getElem? (i := 1189) (by decide +kernel), List.mem_of_getElem? (i := 1190) (by decide +kernel)⟩
theorem lw_p51 : lw_okq (⟨"LogRaftModel", "shouts", "(II)I"⟩, 20) := ⟨⟨by decide +kernel, by decide +kernel⟩, List.mem_of_getElem? (i := 995) (by decide +kernel), List.mem_of_getElem? (i := 1197) (by decide +kernel), List.mem_of_getElem? (i := 1198) (by decide +kernel)⟩
theorem lw_p52 : lw_okq (⟨"LogRaftModel", "washes", "(I)I"⟩, 20) := ⟨⟨by decide +kernel, by decide +kernel⟩, List.mem_of_getElem? (i := 995) (by decide +kernel), List.mem_of_getElem? (i := 1205) (by decide +kernel), List.mem_of_getElem? (i := 1206) (by decide +kernel)⟩
theorem lw_p53 : lw_okq (⟨"LogRaftModel", "aboard", "()I"⟩, 20) := ⟨⟨by decide +kernel, by decide +kernel⟩, List.mem_of_getElem? (i := 995) (by decide +kernel), List.mem_of_getElem? (i := 1209) (by decide +kernel), List.mem_of_getElem? (i := 1210) (by decide +kernel)⟩
theorem lw_p54 : lw_okq (⟨"LogRaftModel", "comesBack", "(I)I"⟩, 20) := ⟨⟨by decide +kernel, by decide +kernel⟩, List.mem_of_getElem? (i := 995) (by decide +kernel), List.mem_of_getElem? (i := 1217) (by decide +kernel), List.mem_of_getElem? (i := 1218) (by decide +kernel)⟩
theorem lw_p55 : lw_okq (⟨"LogRaftModel", "ropes", "(III)I"⟩, 20) := ⟨⟨by decide +kernel, by decide +kernel⟩, List.mem_of_getElem? (i := 995) (by decide +kernel), List.mem_of_getElem? (i := 1225) (by decide +kernel), List.mem_of_getElem? (i := 1226) (by decide +kernel)⟩
theorem lw_p56 : lw_okq (⟨"LogRaftModel", "areDrivers", "(II)Z"⟩, 20) := ⟨⟨by decide +kernel, by decide +kernel⟩, List.mem_of_getElem? (i := 995) (by decide +kernel), List.mem_of_getElem? (i := 1229) (by decide +kernel), List.mem_of_getElem? (i := 1230) (by decide +kernel)⟩
theorem lw_p57 : lw_okq (⟨"LogRaftModel", "ropesCut", "()I"⟩, 20) := ⟨⟨by decide +kernel, by decide +kernel⟩, List.mem_of_getElem? (i := 995) (by decide +kernel), List.mem_of_getElem? (i := 1233) (by decide +kernel), List.mem_of_getElem? (i := 1234) (by decide +kernel)⟩
theorem lw_p58 : lw_okq (⟨"LogRaftModel", "beatsGo", "(I)I"⟩, 20) := ⟨⟨by decide +kernel, by decide +kernel⟩, List.mem_of_getElem? (i := 995) (by decide +kernel), List.mem_of_getElem? (i := 1245) (by decide +kernel), List.mem_of_getElem? (i := 1246) (by decide +kernel)⟩
theorem lw_p59 : lw_okq (⟨"LogRaftModel", "beatGoes", "()V"⟩, 20) := ⟨⟨by decide +kernel, by decide +kernel⟩, List.mem_of_getElem? (i := 995) (by decide +kernel), List.mem_of_getElem? (i := 1249) (by decide +kernel), List.mem_of_getElem? (i := 1250) (by decide +kernel)⟩
theorem lw_p60 : lw_okq (⟨"LogRaftModel", "waits", "(I)V"⟩, 20) := ⟨⟨by decide +kernel, by decide +kernel⟩, List.mem_of_getElem? (i := 995) (by decide +kernel), List.mem_of_getElem? (i := 1253) (by decide +kernel), List.mem_of_getElem? (i := 1254) (by decide +kernel)⟩
theorem lw_p61 : lw_okq (⟨"LogRaftModel", "isText", "()Z"⟩, 20) := ⟨⟨by decide +kernel, by decide +kernel⟩, List.mem_of_getElem? (i := 995) (by decide +kernel), List.mem_of_getElem? (i := 1265) (by decide +kernel), List.mem_of_getElem? (i := 1266) (by decide +kernel)⟩
theorem lw_p62 : lw_okq (⟨"LogRaftModel", "readsCommand", "()Z"⟩, 20) := ⟨⟨by decide +kernel, by decide +kernel⟩, List.mem_of_getElem? (i := 995) (by decide +kernel), List.mem_of_getElem? (i := 1269) (by decide +kernel), List.mem_of_getElem? (i := 1270) (by decide +kernel)⟩
theorem lw_p63 : lw_okq (⟨"LogRaftModel", "isWord", "()Z"⟩, 20) := ⟨⟨by decide +kernel, by decide +kernel⟩, List.mem_of_getElem? (i := 995) (by decide +kernel), List.mem_of_getElem? (i := 1273) (by decide +kernel), List.mem_of_getElem? (i := 1274) (by decide +kernel)⟩
def lw_privs_4 : List (MethodName × Nat) := [(⟨"LogRaftModel", "gets", "(II)V"⟩, 20), (⟨"LogRaftModel", "alikeTo", "(II)I"⟩, 20), (⟨"LogRaftModel", "lastOwn", "(I)I"⟩, 20), (⟨"LogRaftModel", "shouts", "(II)I"⟩, 20), (⟨"LogRaftModel", "washes", "(I)I"⟩, 20), (⟨"LogRaftModel", "aboard", "()I"⟩, 20), (⟨"LogRaftModel", "comesBack", "(I)I"⟩, 20), (⟨"LogRaftModel", "ropes", "(III)I"⟩, 20), (⟨"LogRaftModel", "areDrivers", "(II)Z"⟩, 20), (⟨"LogRaftModel", "ropesCut", "()I"⟩, 20), (⟨"LogRaftModel", "beatsGo", "(I)I"⟩, 20), (⟨"LogRaftModel", "beatGoes", "()V"⟩, 20), (⟨"LogRaftModel", "waits", "(I)V"⟩, 20), (⟨"LogRaftModel", "isText", "()Z"⟩, 20), (⟨"LogRaftModel", "readsCommand", "()Z"⟩, 20), (⟨"LogRaftModel", "isWord", "()Z"⟩, 20)]
theorem lw_r4 : ∀ q ∈ lw_privs_4, lw_okq q := List.forall_mem_cons.mpr ⟨lw_p48, List.forall_mem_cons.mpr ⟨lw_p49, List.forall_mem_cons.mpr ⟨lw_p50, List.forall_mem_cons.mpr ⟨lw_p51, List.forall_mem_cons.mpr ⟨lw_p52, List.forall_mem_cons.mpr ⟨lw_p53, List.forall_mem_cons.mpr ⟨lw_p54, List.forall_mem_cons.mpr ⟨lw_p55, List.forall_mem_cons.mpr ⟨lw_p56, List.forall_mem_cons.mpr ⟨lw_p57, List.forall_mem_cons.mpr ⟨lw_p58, List.forall_mem_cons.mpr ⟨lw_p59, List.forall_mem_cons.mpr ⟨lw_p60, List.forall_mem_cons.mpr ⟨lw_p61, List.forall_mem_cons.mpr ⟨lw_p62, List.forall_mem_cons.mpr ⟨lw_p63, fun _ h => absurd h List.not_mem_nil⟩⟩⟩⟩⟩⟩⟩⟩⟩⟩⟩⟩⟩⟩⟩⟩
theorem lw_p64 : lw_okq (⟨"LogRaftModel", "alikeHere", "(Ljava/lang/String;)I"⟩, 20) := ⟨⟨by decide +kernel, by decide +kernel⟩, List.mem_of_getElem? (i := 995) (by decide +kernel), List.mem_of_getElem? (i := 1289) (by decide +kernel), List.mem_of_getElem? (i := 1290) (by decide +kernel)⟩
theorem lw_p65 : lw_okq (⟨"LogRaftModel", "isDigit", "(I)Z"⟩, 20) := ⟨⟨by decide +kernel, by decide +kernel⟩, List.mem_of_getElem? (i := 995) (by decide +kernel), List.mem_of_getElem? (i := 1295) (by decide +kernel), List.mem_of_getElem? (i := 1296) (by decide +kernel)⟩
theorem lw_p66 : lw_okq (⟨"LogRaftModel", "sign", "()I"⟩, 20) := ⟨⟨by decide +kernel, by decide +kernel⟩, List.mem_of_getElem? (i := 995) (by decide +kernel), List.mem_of_getElem? (i := 1299) (by decide +kernel), List.mem_of_getElem? (i := 1300) (by decide +kernel)⟩
theorem lw_p67 : lw_okq (⟨"LogRaftModel", "isSign", "(I)Z"⟩, 20) := ⟨⟨by decide +kernel, by decide +kernel⟩, List.mem_of_getElem? (i := 995) (by decide +kernel), List.mem_of_getElem? (i := 1303) (by decide +kernel), List.mem_of_getElem? (i := 1304) (by decide +kernel)⟩
theorem lw_p68 : lw_okq (⟨"LogRaftModel", "isLetter", "(I)Z"⟩, 20) := ⟨⟨by decide +kernel, by decide +kernel⟩, List.mem_of_getElem? (i := 995) (by decide +kernel), List.mem_of_getElem? (i := 1307) (by decide +kernel), List.mem_of_getElem? (i := 1308) (by decide +kernel)⟩
theorem lw_p69 : lw_okq (⟨"LogRaftModel", "does", "(I)I"⟩, 20) := ⟨⟨by decide +kernel, by decide +kernel⟩, List.mem_of_getElem? (i := 995) (by decide +kernel), List.mem_of_getElem? (i := 1311) (by decide +kernel), List.mem_of_getElem? (i := 1312) (by decide +kernel)⟩
theorem lw_p70 : lw_okq (⟨"LogRaftModel", "isBehind", "(ZI)V"⟩, 20) := ⟨⟨by decide +kernel, by decide +kernel⟩, List.mem_of_getElem? (i := 995) (by decide +kernel), List.mem_of_getElem? (i := 1315) (by decide +kernel), List.mem_of_getElem? (i := 1316) (by decide +kernel)⟩
theorem lw_p71 : lw_okq (⟨"LogRaftModel", "reachedBy", "(I)I"⟩, 20) := ⟨⟨by decide +kernel, by decide +kernel⟩, List.mem_of_getElem? (i := 995) (by decide +kernel), List.mem_of_getElem? (i := 1331) (by decide +kernel), List.mem_of_getElem? (i := 1332) (by decide +kernel)⟩
theorem lw_p72 : lw_okq (⟨"LogRaftModel", "isLine", "(II)Z"⟩, 20) := ⟨⟨by decide +kernel, by decide +kernel⟩, List.mem_of_getElem? (i := 995) (by decide +kernel), List.mem_of_getElem? (i := 1339) (by decide +kernel), List.mem_of_getElem? (i := 1340) (by decide +kernel)⟩
theorem lw_p73 : lw_okq (⟨"LogRaftModel", "wouldGive", "(II)Z"⟩, 20) := ⟨⟨by decide +kernel, by decide +kernel⟩, List.mem_of_getElem? (i := 995) (by decide +kernel), List.mem_of_getElem? (i := 1359) (by decide +kernel), List.mem_of_getElem? (i := 1360) (by decide +kernel)⟩
theorem lw_p74 : lw_okq (⟨"LogRaftModel", "codeOfAsking", "(I)I"⟩, 20) := ⟨⟨by decide +kernel, by decide +kernel⟩, List.mem_of_getElem? (i := 995) (by decide +kernel), List.mem_of_getElem? (i := 1367) (by decide +kernel), List.mem_of_getElem? (i := 1368) (by decide +kernel)⟩
theorem lw_p75 : lw_okq (⟨"LogRaftModel", "isAhead", "(II)Z"⟩, 20) := ⟨⟨by decide +kernel, by decide +kernel⟩, List.mem_of_getElem? (i := 995) (by decide +kernel), List.mem_of_getElem? (i := 1403) (by decide +kernel), List.mem_of_getElem? (i := 1404) (by decide +kernel)⟩
theorem lw_p76 : lw_okq (⟨"LogRaftModel", "waitsYet", "(I)I"⟩, 20) := ⟨⟨by decide +kernel, by decide +kernel⟩, List.mem_of_getElem? (i := 995) (by decide +kernel), List.mem_of_getElem? (i := 1411) (by decide +kernel), List.mem_of_getElem? (i := 1412) (by decide +kernel)⟩
theorem lw_p77 : lw_okq (⟨"LogRaftModel", "doesWait", "(I)Z"⟩, 20) := ⟨⟨by decide +kernel, by decide +kernel⟩, List.mem_of_getElem? (i := 995) (by decide +kernel), List.mem_of_getElem? (i := 1415) (by decide +kernel), List.mem_of_getElem? (i := 1416) (by decide +kernel)⟩
theorem lw_p78 : lw_okq (⟨"LogRaftModel", "puts", "(I)V"⟩, 20) := ⟨⟨by decide +kernel, by decide +kernel⟩, List.mem_of_getElem? (i := 995) (by decide +kernel), List.mem_of_getElem? (i := 1427) (by decide +kernel), List.mem_of_getElem? (i := 1428) (by decide +kernel)⟩
theorem lw_p79 : lw_okq (⟨"LogRaftModel", "number", "(I)V"⟩, 20) := ⟨⟨by decide +kernel, by decide +kernel⟩, List.mem_of_getElem? (i := 995) (by decide +kernel), List.mem_of_getElem? (i := 1431) (by decide +kernel), List.mem_of_getElem? (i := 1432) (by decide +kernel)⟩
def lw_privs_5 : List (MethodName × Nat) := [(⟨"LogRaftModel", "alikeHere", "(Ljava/lang/String;)I"⟩, 20), (⟨"LogRaftModel", "isDigit", "(I)Z"⟩, 20), (⟨"LogRaftModel", "sign", "()I"⟩, 20), (⟨"LogRaftModel", "isSign", "(I)Z"⟩, 20), (⟨"LogRaftModel", "isLetter", "(I)Z"⟩, 20), (⟨"LogRaftModel", "does", "(I)I"⟩, 20), (⟨"LogRaftModel", "isBehind", "(ZI)V"⟩, 20), (⟨"LogRaftModel", "reachedBy", "(I)I"⟩, 20), (⟨"LogRaftModel", "isLine", "(II)Z"⟩, 20), (⟨"LogRaftModel", "wouldGive", "(II)Z"⟩, 20), (⟨"LogRaftModel", "codeOfAsking", "(I)I"⟩, 20), (⟨"LogRaftModel", "isAhead", "(II)Z"⟩, 20), (⟨"LogRaftModel", "waitsYet", "(I)I"⟩, 20), (⟨"LogRaftModel", "doesWait", "(I)Z"⟩, 20), (⟨"LogRaftModel", "puts", "(I)V"⟩, 20), (⟨"LogRaftModel", "number", "(I)V"⟩, 20)]
theorem lw_r5 : ∀ q ∈ lw_privs_5, lw_okq q := List.forall_mem_cons.mpr ⟨lw_p64, List.forall_mem_cons.mpr ⟨lw_p65, List.forall_mem_cons.mpr ⟨lw_p66, List.forall_mem_cons.mpr ⟨lw_p67, List.forall_mem_cons.mpr ⟨lw_p68, List.forall_mem_cons.mpr ⟨lw_p69, List.forall_mem_cons.mpr ⟨lw_p70, List.forall_mem_cons.mpr ⟨lw_p71, List.forall_mem_cons.mpr ⟨lw_p72, List.forall_mem_cons.mpr ⟨lw_p73, List.forall_mem_cons.mpr ⟨lw_p74, List.forall_mem_cons.mpr ⟨lw_p75, List.forall_mem_cons.mpr ⟨lw_p76, List.forall_mem_cons.mpr ⟨lw_p77, List.forall_mem_cons.mpr ⟨lw_p78, List.forall_mem_cons.mpr ⟨lw_p79, fun _ h => absurd h List.not_mem_nil⟩⟩⟩⟩⟩⟩⟩⟩⟩⟩⟩⟩⟩⟩⟩⟩
theorem lw_p80 : lw_okq (⟨"LogRaftModel", "allOf", "(I)I"⟩, 20) := ⟨⟨by decide +kernel, by decide +kernel⟩, List.mem_of_getElem? (i := 995) (by decide +kernel), List.mem_of_getElem? (i := 1447) (by decide +kernel), List.mem_of_getElem? (i := 1448) (by decide +kernel)⟩
theorem lw_p81 : lw_okq (⟨"LogRaftModel", "greatestTerm", "()I"⟩, 20) := ⟨⟨by decide +kernel, by decide +kernel⟩, List.mem_of_getElem? (i := 995) (by decide +kernel), List.mem_of_getElem? (i := 1459) (by decide +kernel), List.mem_of_getElem? (i := 1460) (by decide +kernel)⟩
def lw_privs_6 : List (MethodName × Nat) := [(⟨"LogRaftModel", "allOf", "(I)I"⟩, 20), (⟨"LogRaftModel", "greatestTerm", "()I"⟩, 20)]
theorem lw_r6 : ∀ q ∈ lw_privs_6, lw_okq q := List.forall_mem_cons.mpr ⟨lw_p80, List.forall_mem_cons.mpr ⟨lw_p81, fun _ h => absurd h List.not_mem_nil⟩⟩
def lw_privs : List (MethodName × Nat) := lw_privs_1 ++ (lw_privs_2 ++ (lw_privs_3 ++ (lw_privs_4 ++ (lw_privs_5 ++ (lw_privs_6)))))
def lw_tbl : List Cond := k2_sels lw_privs ++ tables_1
theorem lw_privs_ok : ∀ q ∈ lw_privs, lw_okq q := by
  show ∀ q ∈ lw_privs_1 ++ (lw_privs_2 ++ (lw_privs_3 ++ (lw_privs_4 ++ (lw_privs_5 ++ (lw_privs_6))))), lw_okq q
  exact List.forall_mem_append.mpr ⟨lw_r1, List.forall_mem_append.mpr ⟨lw_r2, List.forall_mem_append.mpr ⟨lw_r3, List.forall_mem_append.mpr ⟨lw_r4, List.forall_mem_append.mpr ⟨lw_r5, lw_r6⟩⟩⟩⟩⟩
/-- the streams that the claim lets the run draw from -/
abbrev lw_cs : List Choice := [Jvm.Choice.named "NaN.bits"]
theorem lw_bits : nanBits ∈ lw_cs := by first | decide | exact List.mem_cons_self | simp [lw_cs, nanBits]
def RX0 : String := "LogRaft$1"
def TX0 : u_T := fun k => match k with
  | _ => ("", "", "", false)
def tyX0 : Nat → FieldType := fun k => match k with
  | _ => .int
theorem nmX0 : ∀ a, a < 0 → ∀ b, b < 0 → a ≠ b → (TX0 a).2.1 ≠ (TX0 b).2.1 := by decide +kernel
theorem tyX0_ok : ∀ k, k < 0 → parseFieldDescriptor (TX0 k).2.2.1 = some (tyX0 k) := by decide +kernel
def RX1 : String := "LogRaft$Command"
def TX1 : u_T := fun k => match k with
  | 0 => ("LogRaft$Command", "word", "LLogRaft$Word;", false)
  | 1 => ("LogRaft$Command", "first", "I", false)
  | _ => ("LogRaft$Command", "second", "I", false)
def tyX1 : Nat → FieldType := fun k => match k with
  | 0 => .object "LogRaft$Word"
  | 1 => .int
  | _ => .int
theorem nmX1 : ∀ a, a < 3 → ∀ b, b < 3 → a ≠ b → (TX1 a).2.1 ≠ (TX1 b).2.1 := by decide +kernel
theorem tyX1_ok : ∀ k, k < 3 → parseFieldDescriptor (TX1 k).2.2.1 = some (tyX1 k) := by decide +kernel
abbrev cX1_init : ByteArray := prog_3_method_1_code
def yX1_init : MethodName := ⟨RX1, "<init>", "()V"⟩
def RX2 : String := "LogRaft$Driver"
def TX2 : u_T := fun k => match k with
  | 0 => ("LogRaft$Driver", "doing", "I", false)
  | 1 => ("LogRaft$Driver", "term", "I", false)
  | 2 => ("LogRaft$Driver", "patience", "I", false)
  | 3 => ("LogRaft$Driver", "waited", "I", false)
  | 4 => ("LogRaft$Driver", "vote", "I", false)
  | 5 => ("LogRaft$Driver", "lines", "I", false)
  | 6 => ("LogRaft$Driver", "known", "I", false)
  | 7 => ("LogRaft$Driver", "isAboard", "Z", false)
  | 8 => ("LogRaft$Driver", "timesAsked", "I", false)
  | 9 => ("LogRaft$Driver", "timesLed", "I", false)
  | 10 => ("LogRaft$Driver", "terms", "[I", true)
  | _ => ("LogRaft$Driver", "letters", "[C", true)
def tyX2 : Nat → FieldType := fun k => match k with
  | 0 => .int
  | 1 => .int
  | 2 => .int
  | 3 => .int
  | 4 => .int
  | 5 => .int
  | 6 => .int
  | 7 => .boolean
  | 8 => .int
  | 9 => .int
  | 10 => .array .int
  | _ => .array .char
theorem nmX2 : ∀ a, a < 12 → ∀ b, b < 12 → a ≠ b → (TX2 a).2.1 ≠ (TX2 b).2.1 := by decide +kernel
theorem tyX2_ok : ∀ k, k < 12 → parseFieldDescriptor (TX2 k).2.2.1 = some (tyX2 k) := by decide +kernel
abbrev cX2_init : ByteArray := prog_4_method_1_code
def yX2_init : MethodName := ⟨RX2, "<init>", "()V"⟩
abbrev cX2_begin : ByteArray := prog_4_method_2_code
def yX2_begin : MethodName := ⟨RX2, "begin", "(I)V"⟩
abbrev cX2_copyFrom : ByteArray := prog_4_method_3_code
def yX2_copyFrom : MethodName := ⟨RX2, "copyFrom", "(LLogRaft$Driver;)V"⟩
abbrev cX2_copyLines : ByteArray := prog_4_method_4_code
def yX2_copyLines : MethodName := ⟨RX2, "copyLines", "(LLogRaft$Driver;I)V"⟩
abbrev cX2_write : ByteArray := prog_4_method_5_code
def yX2_write : MethodName := ⟨RX2, "write", "(IC)V"⟩
abbrev cX2_isLeading : ByteArray := prog_4_method_6_code
def yX2_isLeading : MethodName := ⟨RX2, "isLeading", "()Z"⟩
abbrev cX2_isWaiting : ByteArray := prog_4_method_7_code
def yX2_isWaiting : MethodName := ⟨RX2, "isWaiting", "()Z"⟩
abbrev cX2_waitBeat : ByteArray := prog_4_method_8_code
def yX2_waitBeat : MethodName := ⟨RX2, "waitBeat", "()Z"⟩
abbrev cX2_beatsLeft : ByteArray := prog_4_method_9_code
def yX2_beatsLeft : MethodName := ⟨RX2, "beatsLeft", "()I"⟩
abbrev cX2_hasLongerTaleThan : ByteArray := prog_4_method_10_code
def yX2_hasLongerTaleThan : MethodName := ⟨RX2, "hasLongerTaleThan", "(LLogRaft$Driver;)Z"⟩
abbrev cX2_countSameLines : ByteArray := prog_4_method_11_code
def yX2_countSameLines : MethodName := ⟨RX2, "countSameLines", "(LLogRaft$Driver;)I"⟩
abbrev cX2_takeOver : ByteArray := prog_4_method_12_code
def yX2_takeOver : MethodName := ⟨RX2, "takeOver", "(I)V"⟩
abbrev cX2_followLeader : ByteArray := prog_4_method_13_code
def yX2_followLeader : MethodName := ⟨RX2, "followLeader", "(LLogRaft$Driver;)I"⟩
abbrev cX2_agreeOwnLines : ByteArray := prog_4_method_14_code
def yX2_agreeOwnLines : MethodName := ⟨RX2, "agreeOwnLines", "()V"⟩
abbrev cX2_writeOn : ByteArray := prog_4_method_15_code
def yX2_writeOn : MethodName := ⟨RX2, "writeOn", "(Ljava/lang/StringBuilder;)V"⟩
def RX3 : String := "LogRaft$Past"
def TX3 : u_T := fun k => match k with
  | 0 => ("LogRaft$Past", "states", "[LLogRaft$Raft;", true)
  | 1 => ("LogRaft$Past", "next", "I", false)
  | _ => ("LogRaft$Past", "count", "I", false)
def tyX3 : Nat → FieldType := fun k => match k with
  | 0 => .array (.object "LogRaft$Raft")
  | 1 => .int
  | _ => .int
theorem nmX3 : ∀ a, a < 3 → ∀ b, b < 3 → a ≠ b → (TX3 a).2.1 ≠ (TX3 b).2.1 := by decide +kernel
theorem tyX3_ok : ∀ k, k < 3 → parseFieldDescriptor (TX3 k).2.2.1 = some (tyX3 k) := by decide +kernel
abbrev cX3_init : ByteArray := prog_5_method_1_code
def yX3_init : MethodName := ⟨RX3, "<init>", "()V"⟩
abbrev cX3_remember : ByteArray := prog_5_method_2_code
def yX3_remember : MethodName := ⟨RX3, "remember", "(LLogRaft$Raft;)V"⟩
abbrev cX3_takeBack : ByteArray := prog_5_method_3_code
def yX3_takeBack : MethodName := ⟨RX3, "takeBack", "(LLogRaft$Raft;)V"⟩
abbrev cX3_forget : ByteArray := prog_5_method_4_code
def yX3_forget : MethodName := ⟨RX3, "forget", "()V"⟩
def RX4 : String := "LogRaft$Raft"
def TX4 : u_T := fun k => match k with
  | 0 => ("LogRaft$Raft", "drivers", "[LLogRaft$Driver;", true)
  | 1 => ("LogRaft$Raft", "cutRopes", "[Z", true)
  | 2 => ("LogRaft$Raft", "count", "I", false)
  | 3 => ("LogRaft$Raft", "beat", "I", false)
  | 4 => ("LogRaft$Raft", "asks", "I", false)
  | 5 => ("LogRaft$Raft", "leads", "I", false)
  | 6 => ("LogRaft$Raft", "shouts", "I", false)
  | 7 => ("LogRaft$Raft", "cutLines", "I", false)
  | 8 => ("LogRaft$Raft", "sendings", "I", false)
  | _ => ("LogRaft$Raft", "votes", "I", false)
def tyX4 : Nat → FieldType := fun k => match k with
  | 0 => .array (.object "LogRaft$Driver")
  | 1 => .array .boolean
  | 2 => .int
  | 3 => .int
  | 4 => .int
  | 5 => .int
  | 6 => .int
  | 7 => .int
  | 8 => .int
  | _ => .int
theorem nmX4 : ∀ a, a < 10 → ∀ b, b < 10 → a ≠ b → (TX4 a).2.1 ≠ (TX4 b).2.1 := by decide +kernel
theorem tyX4_ok : ∀ k, k < 10 → parseFieldDescriptor (TX4 k).2.2.1 = some (tyX4 k) := by decide +kernel
abbrev cX4_init : ByteArray := prog_6_method_1_code
def yX4_init : MethodName := ⟨RX4, "<init>", "()V"⟩
abbrev cX4_empty : ByteArray := prog_6_method_2_code
def yX4_empty : MethodName := ⟨RX4, "empty", "()V"⟩
abbrev cX4_copyFrom : ByteArray := prog_6_method_3_code
def yX4_copyFrom : MethodName := ⟨RX4, "copyFrom", "(LLogRaft$Raft;)V"⟩
abbrev cX4_has : ByteArray := prog_6_method_4_code
def yX4_has : MethodName := ⟨RX4, "has", "(I)Z"⟩
abbrev cX4_hasLine : ByteArray := prog_6_method_5_code
def yX4_hasLine : MethodName := ⟨RX4, "hasLine", "(II)Z"⟩
abbrev cX4_addDriver : ByteArray := prog_6_method_6_code
def yX4_addDriver : MethodName := ⟨RX4, "addDriver", "(I)I"⟩
abbrev cX4_isMajority : ByteArray := prog_6_method_7_code
def yX4_isMajority : MethodName := ⟨RX4, "isMajority", "(I)Z"⟩
abbrev cX4_isRopeCut : ByteArray := prog_6_method_8_code
def yX4_isRopeCut : MethodName := ⟨RX4, "isRopeCut", "(II)Z"⟩
abbrev cX4_setRope : ByteArray := prog_6_method_9_code
def yX4_setRope : MethodName := ⟨RX4, "setRope", "(IIZ)V"⟩
abbrev cX4_canReach : ByteArray := prog_6_method_10_code
def yX4_canReach : MethodName := ⟨RX4, "canReach", "(II)Z"⟩
abbrev cX4_countReached : ByteArray := prog_6_method_11_code
def yX4_countReached : MethodName := ⟨RX4, "countReached", "(I)I"⟩
abbrev cX4_countCutRopes : ByteArray := prog_6_method_12_code
def yX4_countCutRopes : MethodName := ⟨RX4, "countCutRopes", "()I"⟩
abbrev cX4_gatherVotes : ByteArray := prog_6_method_13_code
def yX4_gatherVotes : MethodName := ⟨RX4, "gatherVotes", "(I)I"⟩
abbrev cX4_beginAsking : ByteArray := prog_6_method_14_code
def yX4_beginAsking : MethodName := ⟨RX4, "beginAsking", "(LLogRaft$Driver;I)V"⟩
abbrev cX4_letVote : ByteArray := prog_6_method_15_code
def yX4_letVote : MethodName := ⟨RX4, "letVote", "(LLogRaft$Driver;I)I"⟩
abbrev cX4_wouldGrantVote : ByteArray := prog_6_method_16_code
def yX4_wouldGrantVote : MethodName := ⟨RX4, "wouldGrantVote", "(II)Z"⟩
abbrev cX4_votesToGet : ByteArray := prog_6_method_17_code
def yX4_votesToGet : MethodName := ⟨RX4, "votesToGet", "(I)I"⟩
abbrev cX4_hasVoteOf : ByteArray := prog_6_method_18_code
def yX4_hasVoteOf : MethodName := ⟨RX4, "hasVoteOf", "(II)Z"⟩
abbrev cX4_sendFrom : ByteArray := prog_6_method_19_code
def yX4_sendFrom : MethodName := ⟨RX4, "sendFrom", "(I)I"⟩
abbrev cX4_passBeats : ByteArray := prog_6_method_20_code
def yX4_passBeats : MethodName := ⟨RX4, "passBeats", "(I)I"⟩
abbrev cX4_isConflict : ByteArray := prog_6_method_21_code
def yX4_isConflict : MethodName := ⟨RX4, "isConflict", "(II)Z"⟩
abbrev cX4_countRankedAhead : ByteArray := prog_6_method_22_code
def yX4_countRankedAhead : MethodName := ⟨RX4, "countRankedAhead", "(I)I"⟩
abbrev cX4_isRankedAhead : ByteArray := prog_6_method_23_code
def yX4_isRankedAhead : MethodName := ⟨RX4, "isRankedAhead", "(II)Z"⟩
abbrev cX4_countAskingAhead : ByteArray := prog_6_method_24_code
def yX4_countAskingAhead : MethodName := ⟨RX4, "countAskingAhead", "(I)I"⟩
abbrev cX4_countAboard : ByteArray := prog_6_method_25_code
def yX4_countAboard : MethodName := ⟨RX4, "countAboard", "()I"⟩
abbrev cX4_countLines : ByteArray := prog_6_method_26_code
def yX4_countLines : MethodName := ⟨RX4, "countLines", "()I"⟩
abbrev cX4_countKnownLines : ByteArray := prog_6_method_27_code
def yX4_countKnownLines : MethodName := ⟨RX4, "countKnownLines", "()I"⟩
abbrev cX4_greatestTerm : ByteArray := prog_6_method_28_code
def yX4_greatestTerm : MethodName := ⟨RX4, "greatestTerm", "()I"⟩
def RX5 : String := "LogRaft$Reasons"
def TX5 : u_T := fun k => match k with
  | 0 => ("LogRaft$Reasons", "number", "I", false)
  | 1 => ("LogRaft$Reasons", "detail", "I", false)
  | 2 => ("LogRaft$Reasons", "numberBehind", "I", false)
  | _ => ("LogRaft$Reasons", "detailBehind", "I", false)
def tyX5 : Nat → FieldType := fun k => match k with
  | 0 => .int
  | 1 => .int
  | 2 => .int
  | _ => .int
theorem nmX5 : ∀ a, a < 4 → ∀ b, b < 4 → a ≠ b → (TX5 a).2.1 ≠ (TX5 b).2.1 := by decide +kernel
theorem tyX5_ok : ∀ k, k < 4 → parseFieldDescriptor (TX5 k).2.2.1 = some (tyX5 k) := by decide +kernel
abbrev cX5_init : ByteArray := prog_7_method_1_code
def yX5_init : MethodName := ⟨RX5, "<init>", "()V"⟩
abbrev cX5_put : ByteArray := prog_7_method_2_code
def yX5_put : MethodName := ⟨RX5, "put", "(II)V"⟩
abbrev cX5_putAhead : ByteArray := prog_7_method_3_code
def yX5_putAhead : MethodName := ⟨RX5, "putAhead", "(II)V"⟩
def RX6 : String := "LogRaft$Text"
def TX6 : u_T := fun k => match k with
  | 0 => ("LogRaft$Text", "signs", "Ljava/lang/StringBuilder;", true)
  | 1 => ("LogRaft$Text", "commands", "[LLogRaft$Command;", true)
  | 2 => ("LogRaft$Text", "count", "I", false)
  | _ => ("LogRaft$Text", "position", "I", false)
def tyX6 : Nat → FieldType := fun k => match k with
  | 0 => .object "java/lang/StringBuilder"
  | 1 => .array (.object "LogRaft$Command")
  | 2 => .int
  | _ => .int
theorem nmX6 : ∀ a, a < 4 → ∀ b, b < 4 → a ≠ b → (TX6 a).2.1 ≠ (TX6 b).2.1 := by decide +kernel
theorem tyX6_ok : ∀ k, k < 4 → parseFieldDescriptor (TX6 k).2.2.1 = some (tyX6 k) := by decide +kernel
abbrev cX6_init : ByteArray := prog_8_method_1_code
def yX6_init : MethodName := ⟨RX6, "<init>", "()V"⟩
abbrev cX6_size : ByteArray := prog_8_method_2_code
def yX6_size : MethodName := ⟨RX6, "size", "()I"⟩
abbrev cX6_add : ByteArray := prog_8_method_3_code
def yX6_add : MethodName := ⟨RX6, "add", "(C)Z"⟩
abbrev cX6_empty : ByteArray := prog_8_method_4_code
def yX6_empty : MethodName := ⟨RX6, "empty", "()V"⟩
abbrev cX6_parse : ByteArray := prog_8_method_5_code
def yX6_parse : MethodName := ⟨RX6, "parse", "()Z"⟩
abbrev cX6_takeCommand : ByteArray := prog_8_method_6_code
def yX6_takeCommand : MethodName := ⟨RX6, "takeCommand", "()Z"⟩
abbrev cX6_takeWord : ByteArray := prog_8_method_7_code
def yX6_takeWord : MethodName := ⟨RX6, "takeWord", "()LLogRaft$Word;"⟩
abbrev cX6_countFitting : ByteArray := prog_8_method_8_code
def yX6_countFitting : MethodName := ⟨RX6, "countFitting", "(Ljava/lang/String;)I"⟩
abbrev cX6_isHere : ByteArray := prog_8_method_9_code
def yX6_isHere : MethodName := ⟨RX6, "isHere", "(IC)Z"⟩
abbrev cX6_takeArguments : ByteArray := prog_8_method_10_code
def yX6_takeArguments : MethodName := ⟨RX6, "takeArguments", "(LLogRaft$Command;)Z"⟩
abbrev cX6_takeFirst : ByteArray := prog_8_method_11_code
def yX6_takeFirst : MethodName := ⟨RX6, "takeFirst", "(LLogRaft$Command;)Z"⟩
abbrev cX6_takeSecond : ByteArray := prog_8_method_12_code
def yX6_takeSecond : MethodName := ⟨RX6, "takeSecond", "(LLogRaft$Command;)Z"⟩
abbrev cX6_takeLetter : ByteArray := prog_8_method_13_code
def yX6_takeLetter : MethodName := ⟨RX6, "takeLetter", "(LLogRaft$Command;)Z"⟩
abbrev cX6_takeDigit : ByteArray := prog_8_method_14_code
def yX6_takeDigit : MethodName := ⟨RX6, "takeDigit", "()I"⟩
abbrev cX6_takeSign : ByteArray := prog_8_method_15_code
def yX6_takeSign : MethodName := ⟨RX6, "takeSign", "(C)Z"⟩
abbrev cX6_takeBetween : ByteArray := prog_8_method_16_code
def yX6_takeBetween : MethodName := ⟨RX6, "takeBetween", "(CC)I"⟩
def RX7 : String := "LogRaft$Word"
def TX7 : u_T := fun k => match k with
  | _ => ("", "", "", false)
def tyX7 : Nat → FieldType := fun k => match k with
  | _ => .int
theorem nmX7 : ∀ a, a < 0 → ∀ b, b < 0 → a ≠ b → (TX7 a).2.1 ≠ (TX7 b).2.1 := by decide +kernel
theorem tyX7_ok : ∀ k, k < 0 → parseFieldDescriptor (TX7 k).2.2.1 = some (tyX7 k) := by decide +kernel
def RX8 : String := "LogRaft"
def TX8 : u_T := fun k => match k with
  | 0 => ("LogRaft", "now", "LLogRaft$Raft;", true)
  | 1 => ("LogRaft", "spare", "LLogRaft$Raft;", true)
  | 2 => ("LogRaft", "saved", "LLogRaft$Raft;", true)
  | 3 => ("LogRaft", "past", "LLogRaft$Past;", true)
  | 4 => ("LogRaft", "reasons", "LLogRaft$Reasons;", true)
  | 5 => ("LogRaft", "text", "LLogRaft$Text;", true)
  | 6 => ("LogRaft", "writing", "Ljava/lang/StringBuilder;", true)
  | 7 => ("LogRaft", "isSaved", "Z", false)
  | _ => ("LogRaft", "faultAt", "I", false)
def tyX8 : Nat → FieldType := fun k => match k with
  | 0 => .object "LogRaft$Raft"
  | 1 => .object "LogRaft$Raft"
  | 2 => .object "LogRaft$Raft"
  | 3 => .object "LogRaft$Past"
  | 4 => .object "LogRaft$Reasons"
  | 5 => .object "LogRaft$Text"
  | 6 => .object "java/lang/StringBuilder"
  | 7 => .boolean
  | _ => .int
theorem nmX8 : ∀ a, a < 9 → ∀ b, b < 9 → a ≠ b → (TX8 a).2.1 ≠ (TX8 b).2.1 := by decide +kernel
theorem tyX8_ok : ∀ k, k < 9 → parseFieldDescriptor (TX8 k).2.2.1 = some (tyX8 k) := by decide +kernel
abbrev cX8_init : ByteArray := prog_1_method_1_code
def yX8_init : MethodName := ⟨RX8, "<init>", "()V"⟩
abbrev cX8_clear : ByteArray := prog_1_method_2_code
def yX8_clear : MethodName := ⟨RX8, "clear", "()I"⟩
abbrev cX8_append : ByteArray := prog_1_method_3_code
def yX8_append : MethodName := ⟨RX8, "append", "(C)I"⟩
abbrev cX8_driver : ByteArray := prog_1_method_4_code
def yX8_driver : MethodName := ⟨RX8, "driver", "(I)I"⟩
abbrev cX8_ask : ByteArray := prog_1_method_5_code
def yX8_ask : MethodName := ⟨RX8, "ask", "(I)I"⟩
abbrev cX8_send : ByteArray := prog_1_method_6_code
def yX8_send : MethodName := ⟨RX8, "send", "(I)I"⟩
abbrev cX8_shout : ByteArray := prog_1_method_7_code
def yX8_shout : MethodName := ⟨RX8, "shout", "(IC)I"⟩
abbrev cX8_wash : ByteArray := prog_1_method_8_code
def yX8_wash : MethodName := ⟨RX8, "wash", "(I)I"⟩
abbrev cX8_back : ByteArray := prog_1_method_9_code
def yX8_back : MethodName := ⟨RX8, "back", "(I)I"⟩
abbrev cX8_cut : ByteArray := prog_1_method_10_code
def yX8_cut : MethodName := ⟨RX8, "cut", "(II)I"⟩
abbrev cX8_tie : ByteArray := prog_1_method_11_code
def yX8_tie : MethodName := ⟨RX8, "tie", "(II)I"⟩
abbrev cX8_beats : ByteArray := prog_1_method_12_code
def yX8_beats : MethodName := ⟨RX8, "beats", "(I)I"⟩
abbrev cX8_read : ByteArray := prog_1_method_13_code
def yX8_read : MethodName := ⟨RX8, "read", "()I"⟩
abbrev cX8_change : ByteArray := prog_1_method_14_code
def yX8_change : MethodName := ⟨RX8, "change", "(LLogRaft$Word;II)I"⟩
abbrev cX8_carryOut : ByteArray := prog_1_method_15_code
def yX8_carryOut : MethodName := ⟨RX8, "carryOut", "(LLogRaft$Word;II)I"⟩
abbrev cX8_letCome : ByteArray := prog_1_method_16_code
def yX8_letCome : MethodName := ⟨RX8, "letCome", "(I)I"⟩
abbrev cX8_letAsk : ByteArray := prog_1_method_17_code
def yX8_letAsk : MethodName := ⟨RX8, "letAsk", "(I)I"⟩
abbrev cX8_letSend : ByteArray := prog_1_method_18_code
def yX8_letSend : MethodName := ⟨RX8, "letSend", "(I)I"⟩
abbrev cX8_letShout : ByteArray := prog_1_method_19_code
def yX8_letShout : MethodName := ⟨RX8, "letShout", "(II)I"⟩
abbrev cX8_washAway : ByteArray := prog_1_method_20_code
def yX8_washAway : MethodName := ⟨RX8, "washAway", "(I)I"⟩
abbrev cX8_bringBack : ByteArray := prog_1_method_21_code
def yX8_bringBack : MethodName := ⟨RX8, "bringBack", "(I)I"⟩
abbrev cX8_changeRope : ByteArray := prog_1_method_22_code
def yX8_changeRope : MethodName := ⟨RX8, "changeRope", "(IIZ)I"⟩
abbrev cX8_refuse : ByteArray := prog_1_method_23_code
def yX8_refuse : MethodName := ⟨RX8, "refuse", "(II)I"⟩
abbrev cX8_refuseCommand : ByteArray := prog_1_method_24_code
def yX8_refuseCommand : MethodName := ⟨RX8, "refuseCommand", "(II)I"⟩
abbrev cX8_fault : ByteArray := prog_1_method_25_code
def yX8_fault : MethodName := ⟨RX8, "fault", "()I"⟩
abbrev cX8_reason : ByteArray := prog_1_method_26_code
def yX8_reason : MethodName := ⟨RX8, "reason", "(IZ)I"⟩
abbrev cX8_driverOf : ByteArray := prog_1_method_27_code
def yX8_driverOf : MethodName := ⟨RX8, "driverOf", "(II)I"⟩
abbrev cX8_lineOf : ByteArray := prog_1_method_28_code
def yX8_lineOf : MethodName := ⟨RX8, "lineOf", "(IIZ)I"⟩
abbrev cX8_leader : ByteArray := prog_1_method_29_code
def yX8_leader : MethodName := ⟨RX8, "leader", "()I"⟩
abbrev cX8_reaches : ByteArray := prog_1_method_30_code
def yX8_reaches : MethodName := ⟨RX8, "reaches", "(II)Z"⟩
abbrev cX8_wouldVote : ByteArray := prog_1_method_31_code
def yX8_wouldVote : MethodName := ⟨RX8, "wouldVote", "(II)Z"⟩
abbrev cX8_couldLead : ByteArray := prog_1_method_32_code
def yX8_couldLead : MethodName := ⟨RX8, "couldLead", "(I)I"⟩
abbrev cX8_couldLeadAgain : ByteArray := prog_1_method_33_code
def yX8_couldLeadAgain : MethodName := ⟨RX8, "couldLeadAgain", "(I)I"⟩
abbrev cX8_codeOfAsking : ByteArray := prog_1_method_34_code
def yX8_codeOfAsking : MethodName := ⟨RX8, "codeOfAsking", "(I)I"⟩
abbrev cX8_longer : ByteArray := prog_1_method_35_code
def yX8_longer : MethodName := ⟨RX8, "longer", "(II)I"⟩
abbrev cX8_alike : ByteArray := prog_1_method_36_code
def yX8_alike : MethodName := ⟨RX8, "alike", "(II)I"⟩
abbrev cX8_holders : ByteArray := prog_1_method_37_code
def yX8_holders : MethodName := ⟨RX8, "holders", "(II)I"⟩
abbrev cX8_agreed : ByteArray := prog_1_method_38_code
def yX8_agreed : MethodName := ⟨RX8, "agreed", "()I"⟩
abbrev cX8_agreedAgain : ByteArray := prog_1_method_39_code
def yX8_agreedAgain : MethodName := ⟨RX8, "agreedAgain", "()I"⟩
abbrev cX8_conflicts : ByteArray := prog_1_method_40_code
def yX8_conflicts : MethodName := ⟨RX8, "conflicts", "()I"⟩
abbrev cX8_isSafe : ByteArray := prog_1_method_41_code
def yX8_isSafe : MethodName := ⟨RX8, "isSafe", "()I"⟩
abbrev cX8_ranked : ByteArray := prog_1_method_42_code
def yX8_ranked : MethodName := ⟨RX8, "ranked", "(I)I"⟩
abbrev cX8_oldest : ByteArray := prog_1_method_43_code
def yX8_oldest : MethodName := ⟨RX8, "oldest", "(I)I"⟩
abbrev cX8_quietBeats : ByteArray := prog_1_method_44_code
def yX8_quietBeats : MethodName := ⟨RX8, "quietBeats", "()I"⟩
abbrev cX8_tell : ByteArray := prog_1_method_45_code
def yX8_tell : MethodName := ⟨RX8, "tell", "(I)I"⟩
abbrev cX8_tellVotes : ByteArray := prog_1_method_46_code
def yX8_tellVotes : MethodName := ⟨RX8, "tellVotes", "(I)I"⟩
abbrev cX8_written : ByteArray := prog_1_method_47_code
def yX8_written : MethodName := ⟨RX8, "written", "(I)I"⟩
abbrev cX8_meanTale : ByteArray := prog_1_method_48_code
def yX8_meanTale : MethodName := ⟨RX8, "meanTale", "()F"⟩
abbrev cX8_agreedShare : ByteArray := prog_1_method_49_code
def yX8_agreedShare : MethodName := ⟨RX8, "agreedShare", "()D"⟩
abbrev cX8_account : ByteArray := prog_1_method_50_code
def yX8_account : MethodName := ⟨RX8, "account", "(I)I"⟩
abbrev cX8_undo : ByteArray := prog_1_method_51_code
def yX8_undo : MethodName := ⟨RX8, "undo", "()I"⟩
abbrev cX8_save : ByteArray := prog_1_method_52_code
def yX8_save : MethodName := ⟨RX8, "save", "()I"⟩
abbrev cX8_restore : ByteArray := prog_1_method_53_code
def yX8_restore : MethodName := ⟨RX8, "restore", "()I"⟩
def RX9 : String := "LogRaftModel"
def TX9 : u_T := fun k => match k with
  | 0 => ("LogRaftModel", "s", "[I", true)
  | 1 => ("LogRaftModel", "was", "[I", true)
  | 2 => ("LogRaftModel", "thought", "[I", true)
  | 3 => ("LogRaftModel", "saved", "[I", true)
  | 4 => ("LogRaftModel", "past", "[I", true)
  | 5 => ("LogRaftModel", "changes", "I", false)
  | 6 => ("LogRaftModel", "reason", "I", false)
  | 7 => ("LogRaftModel", "detail", "I", false)
  | 8 => ("LogRaftModel", "behind", "I", false)
  | 9 => ("LogRaftModel", "behindDetail", "I", false)
  | 10 => ("LogRaftModel", "faultAt", "I", false)
  | 11 => ("LogRaftModel", "isSaved", "Z", false)
  | 12 => ("LogRaftModel", "tape", "[I", true)
  | 13 => ("LogRaftModel", "commands", "[I", true)
  | 14 => ("LogRaftModel", "taped", "I", false)
  | 15 => ("LogRaftModel", "here", "I", false)
  | 16 => ("LogRaftModel", "commandMany", "I", false)
  | 17 => ("LogRaftModel", "word", "I", false)
  | 18 => ("LogRaftModel", "line", "[I", true)
  | _ => ("LogRaftModel", "lined", "I", false)
def tyX9 : Nat → FieldType := fun k => match k with
  | 0 => .array .int
  | 1 => .array .int
  | 2 => .array .int
  | 3 => .array .int
  | 4 => .array .int
  | 5 => .int
  | 6 => .int
  | 7 => .int
  | 8 => .int
  | 9 => .int
  | 10 => .int
  | 11 => .boolean
  | 12 => .array .int
  | 13 => .array .int
  | 14 => .int
  | 15 => .int
  | 16 => .int
  | 17 => .int
  | 18 => .array .int
  | _ => .int
theorem nmX9 : ∀ a, a < 20 → ∀ b, b < 20 → a ≠ b → (TX9 a).2.1 ≠ (TX9 b).2.1 := by decide +kernel
theorem tyX9_ok : ∀ k, k < 20 → parseFieldDescriptor (TX9 k).2.2.1 = some (tyX9 k) := by decide +kernel
abbrev cX9_init : ByteArray := prog_11_method_1_code
def yX9_init : MethodName := ⟨RX9, "<init>", "()V"⟩
abbrev cX9_isIn : ByteArray := prog_11_method_2_code
def yX9_isIn : MethodName := ⟨RX9, "isIn", "(III)Z"⟩
abbrev cX9_lesser : ByteArray := prog_11_method_3_code
def yX9_lesser : MethodName := ⟨RX9, "lesser", "(II)I"⟩
abbrev cX9_greater : ByteArray := prog_11_method_4_code
def yX9_greater : MethodName := ⟨RX9, "greater", "(II)I"⟩
abbrev cX9_copies : ByteArray := prog_11_method_5_code
def yX9_copies : MethodName := ⟨RX9, "copies", "([II[II)V"⟩
abbrev cX9_keeps : ByteArray := prog_11_method_6_code
def yX9_keeps : MethodName := ⟨RX9, "keeps", "()V"⟩
abbrev cX9_changed : ByteArray := prog_11_method_7_code
def yX9_changed : MethodName := ⟨RX9, "changed", "()V"⟩
abbrev cX9_ends : ByteArray := prog_11_method_8_code
def yX9_ends : MethodName := ⟨RX9, "ends", "(I)I"⟩
abbrev cX9_isRefused : ByteArray := prog_11_method_9_code
def yX9_isRefused : MethodName := ⟨RX9, "isRefused", "(ZII)Z"⟩
abbrev cX9_at : ByteArray := prog_11_method_10_code
def yX9_at : MethodName := ⟨RX9, "at", "(II)I"⟩
abbrev cX9_of : ByteArray := prog_11_method_11_code
def yX9_of : MethodName := ⟨RX9, "of", "(II)I"⟩
abbrev cX9_sets : ByteArray := prog_11_method_12_code
def yX9_sets : MethodName := ⟨RX9, "sets", "(III)V"⟩
abbrev cX9_isDriver : ByteArray := prog_11_method_13_code
def yX9_isDriver : MethodName := ⟨RX9, "isDriver", "(I)Z"⟩
abbrev cX9_areDrivers : ByteArray := prog_11_method_14_code
def yX9_areDrivers : MethodName := ⟨RX9, "areDrivers", "(II)Z"⟩
abbrev cX9_isAboard : ByteArray := prog_11_method_15_code
def yX9_isAboard : MethodName := ⟨RX9, "isAboard", "(I)Z"⟩
abbrev cX9_ropeAt : ByteArray := prog_11_method_16_code
def yX9_ropeAt : MethodName := ⟨RX9, "ropeAt", "(II)I"⟩
abbrev cX9_isReached : ByteArray := prog_11_method_17_code
def yX9_isReached : MethodName := ⟨RX9, "isReached", "(II)Z"⟩
abbrev cX9_isMajority : ByteArray := prog_11_method_18_code
def yX9_isMajority : MethodName := ⟨RX9, "isMajority", "(I)Z"⟩
abbrev cX9_lastTerm : ByteArray := prog_11_method_19_code
def yX9_lastTerm : MethodName := ⟨RX9, "lastTerm", "(I)I"⟩
abbrev cX9_longerOf : ByteArray := prog_11_method_20_code
def yX9_longerOf : MethodName := ⟨RX9, "longerOf", "(II)I"⟩
abbrev cX9_alikeTo : ByteArray := prog_11_method_21_code
def yX9_alikeTo : MethodName := ⟨RX9, "alikeTo", "(II)I"⟩
abbrev cX9_clear : ByteArray := prog_11_method_22_code
def yX9_clear : MethodName := ⟨RX9, "clear", "()I"⟩
abbrev cX9_comes : ByteArray := prog_11_method_23_code
def yX9_comes : MethodName := ⟨RX9, "comes", "(I)I"⟩
abbrev cX9_driver : ByteArray := prog_11_method_24_code
def yX9_driver : MethodName := ⟨RX9, "driver", "(I)I"⟩
abbrev cX9_takesOver : ByteArray := prog_11_method_25_code
def yX9_takesOver : MethodName := ⟨RX9, "takesOver", "(II)V"⟩
abbrev cX9_votes : ByteArray := prog_11_method_26_code
def yX9_votes : MethodName := ⟨RX9, "votes", "(II)Z"⟩
abbrev cX9_asksNow : ByteArray := prog_11_method_27_code
def yX9_asksNow : MethodName := ⟨RX9, "asksNow", "(I)I"⟩
abbrev cX9_isWashed : ByteArray := prog_11_method_28_code
def yX9_isWashed : MethodName := ⟨RX9, "isWashed", "(I)Z"⟩
abbrev cX9_asks : ByteArray := prog_11_method_29_code
def yX9_asks : MethodName := ⟨RX9, "asks", "(I)I"⟩
abbrev cX9_ask : ByteArray := prog_11_method_30_code
def yX9_ask : MethodName := ⟨RX9, "ask", "(I)I"⟩
abbrev cX9_gets : ByteArray := prog_11_method_31_code
def yX9_gets : MethodName := ⟨RX9, "gets", "(II)V"⟩
abbrev cX9_lastOwn : ByteArray := prog_11_method_32_code
def yX9_lastOwn : MethodName := ⟨RX9, "lastOwn", "(I)I"⟩
abbrev cX9_sendsNow : ByteArray := prog_11_method_33_code
def yX9_sendsNow : MethodName := ⟨RX9, "sendsNow", "(I)I"⟩
abbrev cX9_isNoLeader : ByteArray := prog_11_method_34_code
def yX9_isNoLeader : MethodName := ⟨RX9, "isNoLeader", "(I)Z"⟩
abbrev cX9_sends : ByteArray := prog_11_method_35_code
def yX9_sends : MethodName := ⟨RX9, "sends", "(I)I"⟩
abbrev cX9_send : ByteArray := prog_11_method_36_code
def yX9_send : MethodName := ⟨RX9, "send", "(I)I"⟩
abbrev cX9_shouts : ByteArray := prog_11_method_37_code
def yX9_shouts : MethodName := ⟨RX9, "shouts", "(II)I"⟩
abbrev cX9_shout : ByteArray := prog_11_method_38_code
def yX9_shout : MethodName := ⟨RX9, "shout", "(IC)I"⟩
abbrev cX9_aboard : ByteArray := prog_11_method_39_code
def yX9_aboard : MethodName := ⟨RX9, "aboard", "()I"⟩
abbrev cX9_washes : ByteArray := prog_11_method_40_code
def yX9_washes : MethodName := ⟨RX9, "washes", "(I)I"⟩
abbrev cX9_wash : ByteArray := prog_11_method_41_code
def yX9_wash : MethodName := ⟨RX9, "wash", "(I)I"⟩
abbrev cX9_comesBack : ByteArray := prog_11_method_42_code
def yX9_comesBack : MethodName := ⟨RX9, "comesBack", "(I)I"⟩
abbrev cX9_back : ByteArray := prog_11_method_43_code
def yX9_back : MethodName := ⟨RX9, "back", "(I)I"⟩
abbrev cX9_ropesCut : ByteArray := prog_11_method_44_code
def yX9_ropesCut : MethodName := ⟨RX9, "ropesCut", "()I"⟩
abbrev cX9_ropes : ByteArray := prog_11_method_45_code
def yX9_ropes : MethodName := ⟨RX9, "ropes", "(III)I"⟩
abbrev cX9_cut : ByteArray := prog_11_method_46_code
def yX9_cut : MethodName := ⟨RX9, "cut", "(II)I"⟩
abbrev cX9_tie : ByteArray := prog_11_method_47_code
def yX9_tie : MethodName := ⟨RX9, "tie", "(II)I"⟩
abbrev cX9_waits : ByteArray := prog_11_method_48_code
def yX9_waits : MethodName := ⟨RX9, "waits", "(I)V"⟩
abbrev cX9_beatGoes : ByteArray := prog_11_method_49_code
def yX9_beatGoes : MethodName := ⟨RX9, "beatGoes", "()V"⟩
abbrev cX9_beatsGo : ByteArray := prog_11_method_50_code
def yX9_beatsGo : MethodName := ⟨RX9, "beatsGo", "(I)I"⟩
abbrev cX9_beats : ByteArray := prog_11_method_51_code
def yX9_beats : MethodName := ⟨RX9, "beats", "(I)I"⟩
abbrev cX9_append : ByteArray := prog_11_method_52_code
def yX9_append : MethodName := ⟨RX9, "append", "(C)I"⟩
abbrev cX9_sign : ByteArray := prog_11_method_53_code
def yX9_sign : MethodName := ⟨RX9, "sign", "()I"⟩
abbrev cX9_isSign : ByteArray := prog_11_method_54_code
def yX9_isSign : MethodName := ⟨RX9, "isSign", "(I)Z"⟩
abbrev cX9_wordOf : ByteArray := prog_11_method_55_code
def yX9_wordOf : MethodName := ⟨RX9, "wordOf", "(I)Ljava/lang/String;"⟩
abbrev cX9_alikeHere : ByteArray := prog_11_method_56_code
def yX9_alikeHere : MethodName := ⟨RX9, "alikeHere", "(Ljava/lang/String;)I"⟩
abbrev cX9_isWord : ByteArray := prog_11_method_57_code
def yX9_isWord : MethodName := ⟨RX9, "isWord", "()Z"⟩
abbrev cX9_isDigit : ByteArray := prog_11_method_58_code
def yX9_isDigit : MethodName := ⟨RX9, "isDigit", "(I)Z"⟩
abbrev cX9_isLetter : ByteArray := prog_11_method_59_code
def yX9_isLetter : MethodName := ⟨RX9, "isLetter", "(I)Z"⟩
abbrev cX9_readsCommand : ByteArray := prog_11_method_60_code
def yX9_readsCommand : MethodName := ⟨RX9, "readsCommand", "()Z"⟩
abbrev cX9_isText : ByteArray := prog_11_method_61_code
def yX9_isText : MethodName := ⟨RX9, "isText", "()Z"⟩
abbrev cX9_does : ByteArray := prog_11_method_62_code
def yX9_does : MethodName := ⟨RX9, "does", "(I)I"⟩
abbrev cX9_isBehind : ByteArray := prog_11_method_63_code
def yX9_isBehind : MethodName := ⟨RX9, "isBehind", "(ZI)V"⟩
abbrev cX9_read : ByteArray := prog_11_method_64_code
def yX9_read : MethodName := ⟨RX9, "read", "()I"⟩
abbrev cX9_fault : ByteArray := prog_11_method_65_code
def yX9_fault : MethodName := ⟨RX9, "fault", "()I"⟩
abbrev cX9_reason : ByteArray := prog_11_method_66_code
def yX9_reason : MethodName := ⟨RX9, "reason", "(IZ)I"⟩
abbrev cX9_reachedBy : ByteArray := prog_11_method_67_code
def yX9_reachedBy : MethodName := ⟨RX9, "reachedBy", "(I)I"⟩
abbrev cX9_driverOf : ByteArray := prog_11_method_68_code
def yX9_driverOf : MethodName := ⟨RX9, "driverOf", "(II)I"⟩
abbrev cX9_isLine : ByteArray := prog_11_method_69_code
def yX9_isLine : MethodName := ⟨RX9, "isLine", "(II)Z"⟩
abbrev cX9_lineOf : ByteArray := prog_11_method_70_code
def yX9_lineOf : MethodName := ⟨RX9, "lineOf", "(IIZ)I"⟩
abbrev cX9_leader : ByteArray := prog_11_method_71_code
def yX9_leader : MethodName := ⟨RX9, "leader", "()I"⟩
abbrev cX9_reaches : ByteArray := prog_11_method_72_code
def yX9_reaches : MethodName := ⟨RX9, "reaches", "(II)Z"⟩
abbrev cX9_longer : ByteArray := prog_11_method_73_code
def yX9_longer : MethodName := ⟨RX9, "longer", "(II)I"⟩
abbrev cX9_wouldGive : ByteArray := prog_11_method_74_code
def yX9_wouldGive : MethodName := ⟨RX9, "wouldGive", "(II)Z"⟩
abbrev cX9_wouldVote : ByteArray := prog_11_method_75_code
def yX9_wouldVote : MethodName := ⟨RX9, "wouldVote", "(II)Z"⟩
abbrev cX9_codeOfAsking : ByteArray := prog_11_method_76_code
def yX9_codeOfAsking : MethodName := ⟨RX9, "codeOfAsking", "(I)I"⟩
abbrev cX9_couldLead : ByteArray := prog_11_method_77_code
def yX9_couldLead : MethodName := ⟨RX9, "couldLead", "(I)I"⟩
abbrev cX9_couldLeadAgain : ByteArray := prog_11_method_78_code
def yX9_couldLeadAgain : MethodName := ⟨RX9, "couldLeadAgain", "(I)I"⟩
abbrev cX9_alike : ByteArray := prog_11_method_79_code
def yX9_alike : MethodName := ⟨RX9, "alike", "(II)I"⟩
abbrev cX9_holders : ByteArray := prog_11_method_80_code
def yX9_holders : MethodName := ⟨RX9, "holders", "(II)I"⟩
abbrev cX9_agreed : ByteArray := prog_11_method_81_code
def yX9_agreed : MethodName := ⟨RX9, "agreed", "()I"⟩
abbrev cX9_agreedAgain : ByteArray := prog_11_method_82_code
def yX9_agreedAgain : MethodName := ⟨RX9, "agreedAgain", "()I"⟩
abbrev cX9_conflicts : ByteArray := prog_11_method_83_code
def yX9_conflicts : MethodName := ⟨RX9, "conflicts", "()I"⟩
abbrev cX9_isSafe : ByteArray := prog_11_method_84_code
def yX9_isSafe : MethodName := ⟨RX9, "isSafe", "()I"⟩
abbrev cX9_isAhead : ByteArray := prog_11_method_85_code
def yX9_isAhead : MethodName := ⟨RX9, "isAhead", "(II)Z"⟩
abbrev cX9_ranked : ByteArray := prog_11_method_86_code
def yX9_ranked : MethodName := ⟨RX9, "ranked", "(I)I"⟩
abbrev cX9_doesWait : ByteArray := prog_11_method_87_code
def yX9_doesWait : MethodName := ⟨RX9, "doesWait", "(I)Z"⟩
abbrev cX9_waitsYet : ByteArray := prog_11_method_88_code
def yX9_waitsYet : MethodName := ⟨RX9, "waitsYet", "(I)I"⟩
abbrev cX9_oldest : ByteArray := prog_11_method_89_code
def yX9_oldest : MethodName := ⟨RX9, "oldest", "(I)I"⟩
abbrev cX9_quietBeats : ByteArray := prog_11_method_90_code
def yX9_quietBeats : MethodName := ⟨RX9, "quietBeats", "()I"⟩
abbrev cX9_puts : ByteArray := prog_11_method_91_code
def yX9_puts : MethodName := ⟨RX9, "puts", "(I)V"⟩
abbrev cX9_number : ByteArray := prog_11_method_92_code
def yX9_number : MethodName := ⟨RX9, "number", "(I)V"⟩
abbrev cX9_tell : ByteArray := prog_11_method_93_code
def yX9_tell : MethodName := ⟨RX9, "tell", "(I)I"⟩
abbrev cX9_tellVotes : ByteArray := prog_11_method_94_code
def yX9_tellVotes : MethodName := ⟨RX9, "tellVotes", "(I)I"⟩
abbrev cX9_written : ByteArray := prog_11_method_95_code
def yX9_written : MethodName := ⟨RX9, "written", "(I)I"⟩
abbrev cX9_allOf : ByteArray := prog_11_method_96_code
def yX9_allOf : MethodName := ⟨RX9, "allOf", "(I)I"⟩
abbrev cX9_meanTale : ByteArray := prog_11_method_97_code
def yX9_meanTale : MethodName := ⟨RX9, "meanTale", "()F"⟩
abbrev cX9_agreedShare : ByteArray := prog_11_method_98_code
def yX9_agreedShare : MethodName := ⟨RX9, "agreedShare", "()D"⟩
abbrev cX9_greatestTerm : ByteArray := prog_11_method_99_code
def yX9_greatestTerm : MethodName := ⟨RX9, "greatestTerm", "()I"⟩
abbrev cX9_account : ByteArray := prog_11_method_100_code
def yX9_account : MethodName := ⟨RX9, "account", "(I)I"⟩
abbrev cX9_undo : ByteArray := prog_11_method_101_code
def yX9_undo : MethodName := ⟨RX9, "undo", "()I"⟩
abbrev cX9_save : ByteArray := prog_11_method_102_code
def yX9_save : MethodName := ⟨RX9, "save", "()I"⟩
abbrev cX9_restore : ByteArray := prog_11_method_103_code
def yX9_restore : MethodName := ⟨RX9, "restore", "()I"⟩
def RJ5 : String := "java/lang/AbstractStringBuilder"
def TJ5 : u_T := fun k => match k with
  | _ => ("", "", "", false)
def tyJ5 : Nat → FieldType := fun k => match k with
  | _ => .int
theorem nmJ5 : ∀ a, a < 0 → ∀ b, b < 0 → a ≠ b → (TJ5 a).2.1 ≠ (TJ5 b).2.1 := by decide +kernel
theorem tyJ5_ok : ∀ k, k < 0 → parseFieldDescriptor (TJ5 k).2.2.1 = some (tyJ5 k) := by decide +kernel
abbrev cJ5_init_d00df : ByteArray := prog_12_method_2_code
def yJ5_init_d00df : MethodName := ⟨RJ5, "<init>", "(I)V"⟩
abbrev cJ5_length_8abf5 : ByteArray := prog_12_method_6_code
def yJ5_length_8abf5 : MethodName := ⟨RJ5, "length", "()I"⟩
abbrev cJ5_ensureCapacityInternal_d00df : ByteArray := prog_12_method_9_code
def yJ5_ensureCapacityInternal_d00df : MethodName := ⟨RJ5, "ensureCapacityInternal", "(I)V"⟩
abbrev cJ5_newCapacity_0f7a4 : ByteArray := prog_12_method_10_code
def yJ5_newCapacity_0f7a4 : MethodName := ⟨RJ5, "newCapacity", "(I)I"⟩
abbrev cJ5_inflate_da8c8 : ByteArray := prog_12_method_11_code
def yJ5_inflate_da8c8 : MethodName := ⟨RJ5, "inflate", "()V"⟩
abbrev cJ5_setLength_d00df : ByteArray := prog_12_method_13_code
def yJ5_setLength_d00df : MethodName := ⟨RJ5, "setLength", "(I)V"⟩
abbrev cJ5_charAt_5068e : ByteArray := prog_12_method_14_code
def yJ5_charAt_5068e : MethodName := ⟨RJ5, "charAt", "(I)C"⟩
abbrev cJ5_append_3fe6f : ByteArray := prog_12_method_31_code
def yJ5_append_3fe6f : MethodName := ⟨RJ5, "append", "(C)Ljava/lang/AbstractStringBuilder;"⟩
abbrev cJ5_append_c97b9 : ByteArray := prog_12_method_32_code
def yJ5_append_c97b9 : MethodName := ⟨RJ5, "append", "(I)Ljava/lang/AbstractStringBuilder;"⟩
abbrev cJ5_isLatin1_aae02 : ByteArray := prog_12_method_68_code
def yJ5_isLatin1_aae02 : MethodName := ⟨RJ5, "isLatin1", "()Z"⟩
def RJx8e188 : String := "java/lang/Cloneable"
def TJx8e188 : u_T := fun k => match k with
  | _ => ("", "", "", false)
def tyJx8e188 : Nat → FieldType := fun k => match k with
  | _ => .int
theorem nmJx8e188 : ∀ a, a < 0 → ∀ b, b < 0 → a ≠ b → (TJx8e188 a).2.1 ≠ (TJx8e188 b).2.1 := by decide +kernel
theorem tyJx8e188_ok : ∀ k, k < 0 → parseFieldDescriptor (TJx8e188 k).2.2.1 = some (tyJx8e188 k) := by decide +kernel
def RJx29ce0 : String := "java/lang/Enum"
def TJx29ce0 : u_T := fun k => match k with
  | _ => ("", "", "", false)
def tyJx29ce0 : Nat → FieldType := fun k => match k with
  | _ => .int
theorem nmJx29ce0 : ∀ a, a < 0 → ∀ b, b < 0 → a ≠ b → (TJx29ce0 a).2.1 ≠ (TJx29ce0 b).2.1 := by decide +kernel
theorem tyJx29ce0_ok : ∀ k, k < 0 → parseFieldDescriptor (TJx29ce0 k).2.2.1 = some (tyJx29ce0 k) := by decide +kernel
abbrev cJx29ce0_ordinal_8abf5 : ByteArray := prog_14_method_2_code
def yJx29ce0_ordinal_8abf5 : MethodName := ⟨RJx29ce0, "ordinal", "()I"⟩
def RJ6 : String := "java/lang/Integer"
def TJ6 : u_T := fun k => match k with
  | _ => ("", "", "", false)
def tyJ6 : Nat → FieldType := fun k => match k with
  | _ => .int
theorem nmJ6 : ∀ a, a < 0 → ∀ b, b < 0 → a ≠ b → (TJ6 a).2.1 ≠ (TJ6 b).2.1 := by decide +kernel
theorem tyJ6_ok : ∀ k, k < 0 → parseFieldDescriptor (TJ6 k).2.2.1 = some (tyJ6 k) := by decide +kernel
abbrev cJ6_getChars_ba4f3 : ByteArray := prog_15_method_12_code
def yJ6_getChars_ba4f3 : MethodName := ⟨RJ6, "getChars", "(II[B)I"⟩
abbrev cJ6_stringSize_0f7a4 : ByteArray := prog_15_method_13_code
def yJ6_stringSize_0f7a4 : MethodName := ⟨RJ6, "stringSize", "(I)I"⟩
def RJ9 : String := "java/lang/Math"
def TJ9 : u_T := fun k => match k with
  | _ => ("", "", "", false)
def tyJ9 : Nat → FieldType := fun k => match k with
  | _ => .int
theorem nmJ9 : ∀ a, a < 0 → ∀ b, b < 0 → a ≠ b → (TJ9 a).2.1 ≠ (TJ9 b).2.1 := by decide +kernel
theorem tyJ9_ok : ∀ k, k < 0 → parseFieldDescriptor (TJ9 k).2.2.1 = some (tyJ9 k) := by decide +kernel
abbrev cJ9_max_7cf53 : ByteArray := prog_16_method_65_code
def yJ9_max_7cf53 : MethodName := ⟨RJ9, "max", "(II)I"⟩
abbrev cJ9_min_7cf53 : ByteArray := prog_16_method_69_code
def yJ9_min_7cf53 : MethodName := ⟨RJ9, "min", "(II)I"⟩
def RJ0 : String := "java/lang/String"
def TJ0 : u_T := fun k => match k with
  | _ => ("", "", "", false)
def tyJ0 : Nat → FieldType := fun k => match k with
  | _ => .int
theorem nmJ0 : ∀ a, a < 0 → ∀ b, b < 0 → a ≠ b → (TJ0 a).2.1 ≠ (TJ0 b).2.1 := by decide +kernel
theorem tyJ0_ok : ∀ k, k < 0 → parseFieldDescriptor (TJ0 k).2.2.1 = some (tyJ0 k) := by decide +kernel
abbrev cJ0_length_8abf5 : ByteArray := prog_17_method_54_code
def yJ0_length_8abf5 : MethodName := ⟨RJ0, "length", "()I"⟩
abbrev cJ0_charAt_5068e : ByteArray := prog_17_method_56_code
def yJ0_charAt_5068e : MethodName := ⟨RJ0, "charAt", "(I)C"⟩
abbrev cJ0_coder_7d493 : ByteArray := prog_17_method_152_code
def yJ0_coder_7d493 : MethodName := ⟨RJ0, "coder", "()B"⟩
abbrev cJ0_isLatin1_aae02 : ByteArray := prog_17_method_154_code
def yJ0_isLatin1_aae02 : MethodName := ⟨RJ0, "isLatin1", "()Z"⟩
abbrev cJ0_checkIndex_df160 : ByteArray := prog_17_method_155_code
def yJ0_checkIndex_df160 : MethodName := ⟨RJ0, "checkIndex", "(II)V"⟩
abbrev cJ0_checkBoundsOffCount_cabcc : ByteArray := prog_17_method_157_code
def yJ0_checkBoundsOffCount_cabcc : MethodName := ⟨RJ0, "checkBoundsOffCount", "(III)I"⟩
abbrev cJ0_checkBoundsBeginEnd_23922 : ByteArray := prog_17_method_158_code
def yJ0_checkBoundsBeginEnd_23922 : MethodName := ⟨RJ0, "checkBoundsBeginEnd", "(III)V"⟩
def RJ4 : String := "java/lang/StringBuilder"
def TJ4 : u_T := fun k => match k with
  | 0 => ("java/lang/AbstractStringBuilder", "value", "[B", false)
  | 1 => ("java/lang/AbstractStringBuilder", "coder", "B", false)
  | 2 => ("java/lang/AbstractStringBuilder", "maybeLatin1", "Z", false)
  | _ => ("java/lang/AbstractStringBuilder", "count", "I", false)
def tyJ4 : Nat → FieldType := fun k => match k with
  | 0 => .array .byte
  | 1 => .byte
  | 2 => .boolean
  | _ => .int
theorem nmJ4 : ∀ a, a < 4 → ∀ b, b < 4 → a ≠ b → (TJ4 a).2.1 ≠ (TJ4 b).2.1 := by decide +kernel
theorem tyJ4_ok : ∀ k, k < 4 → parseFieldDescriptor (TJ4 k).2.2.1 = some (tyJ4 k) := by decide +kernel
abbrev cJ4_init_da8c8 : ByteArray := prog_18_method_1_code
def yJ4_init_da8c8 : MethodName := ⟨RJ4, "<init>", "()V"⟩
abbrev cJ4_append_cf468 : ByteArray := prog_18_method_14_code
def yJ4_append_cf468 : MethodName := ⟨RJ4, "append", "(C)Ljava/lang/StringBuilder;"⟩
abbrev cJ4_append_bf812 : ByteArray := prog_18_method_15_code
def yJ4_append_bf812 : MethodName := ⟨RJ4, "append", "(I)Ljava/lang/StringBuilder;"⟩
abbrev cJ4_charAt_5068e : ByteArray := prog_18_method_88_code
def yJ4_charAt_5068e : MethodName := ⟨RJ4, "charAt", "(I)C"⟩
abbrev cJ4_setLength_d00df : ByteArray := prog_18_method_89_code
def yJ4_setLength_d00df : MethodName := ⟨RJ4, "setLength", "(I)V"⟩
abbrev cJ4_length_8abf5 : ByteArray := prog_18_method_93_code
def yJ4_length_8abf5 : MethodName := ⟨RJ4, "length", "()I"⟩
def RJ1 : String := "java/lang/StringLatin1"
def TJ1 : u_T := fun k => match k with
  | _ => ("", "", "", false)
def tyJ1 : Nat → FieldType := fun k => match k with
  | _ => .int
theorem nmJ1 : ∀ a, a < 0 → ∀ b, b < 0 → a ≠ b → (TJ1 a).2.1 ≠ (TJ1 b).2.1 := by decide +kernel
theorem tyJ1_ok : ∀ k, k < 0 → parseFieldDescriptor (TJ1 k).2.2.1 = some (tyJ1 k) := by decide +kernel
abbrev cJ1_charAt_3b067 : ByteArray := prog_19_method_2_code
def yJ1_charAt_3b067 : MethodName := ⟨RJ1, "charAt", "([BI)C"⟩
abbrev cJ1_canEncode_fc78d : ByteArray := prog_19_method_3_code
def yJ1_canEncode_fc78d : MethodName := ⟨RJ1, "canEncode", "(C)Z"⟩
abbrev cJ1_fillNull_b72d1 : ByteArray := prog_19_method_48_code
def yJ1_fillNull_b72d1 : MethodName := ⟨RJ1, "fillNull", "([BII)V"⟩
abbrev cJ1_inflate_0e8fd : ByteArray := prog_19_method_50_code
def yJ1_inflate_0e8fd : MethodName := ⟨RJ1, "inflate", "([BI[BII)V"⟩
def RJ2 : String := "java/lang/StringUTF16"
def TJ2 : u_T := fun k => match k with
  | _ => ("", "", "", false)
def tyJ2 : Nat → FieldType := fun k => match k with
  | _ => .int
theorem nmJ2 : ∀ a, a < 0 → ∀ b, b < 0 → a ≠ b → (TJ2 a).2.1 ≠ (TJ2 b).2.1 := by decide +kernel
theorem tyJ2_ok : ∀ k, k < 0 → parseFieldDescriptor (TJ2 k).2.2.1 = some (tyJ2 k) := by decide +kernel
abbrev cJ2_newBytesFor_77867 : ByteArray := prog_20_method_2_code
def yJ2_newBytesFor_77867 : MethodName := ⟨RJ2, "newBytesFor", "(I)[B"⟩
abbrev cJ2_newBytesLength_0f7a4 : ByteArray := prog_20_method_3_code
def yJ2_newBytesLength_0f7a4 : MethodName := ⟨RJ2, "newBytesLength", "(I)I"⟩
abbrev cJ2_putChar_b72d1 : ByteArray := prog_20_method_4_code
def yJ2_putChar_b72d1 : MethodName := ⟨RJ2, "putChar", "([BII)V"⟩
abbrev cJ2_getChar_3b067 : ByteArray := prog_20_method_5_code
def yJ2_getChar_3b067 : MethodName := ⟨RJ2, "getChar", "([BI)C"⟩
abbrev cJ2_length_9d52b : ByteArray := prog_20_method_6_code
def yJ2_length_9d52b : MethodName := ⟨RJ2, "length", "([B)I"⟩
abbrev cJ2_fillNull_b72d1 : ByteArray := prog_20_method_70_code
def yJ2_fillNull_b72d1 : MethodName := ⟨RJ2, "fillNull", "([BII)V"⟩
abbrev cJ2_putCharSB_b72d1 : ByteArray := prog_20_method_71_code
def yJ2_putCharSB_b72d1 : MethodName := ⟨RJ2, "putCharSB", "([BII)V"⟩
abbrev cJ2_getChars_46870 : ByteArray := prog_20_method_77_code
def yJ2_getChars_46870 : MethodName := ⟨RJ2, "getChars", "(III[B)I"⟩
abbrev cJ2_charAt_3b067 : ByteArray := prog_20_method_83_code
def yJ2_charAt_3b067 : MethodName := ⟨RJ2, "charAt", "([BI)C"⟩
abbrev cJ2_inflate_0e8fd : ByteArray := prog_20_method_86_code
def yJ2_inflate_0e8fd : MethodName := ⟨RJ2, "inflate", "([BI[BII)V"⟩
abbrev cJ2_getChars_ba4f3 : ByteArray := prog_20_method_89_code
def yJ2_getChars_ba4f3 : MethodName := ⟨RJ2, "getChars", "(II[B)I"⟩
abbrev cJ2_checkIndex_2214a : ByteArray := prog_20_method_91_code
def yJ2_checkIndex_2214a : MethodName := ⟨RJ2, "checkIndex", "(I[B)V"⟩
abbrev cJ2_checkBoundsBeginEnd_d044e : ByteArray := prog_20_method_93_code
def yJ2_checkBoundsBeginEnd_d044e : MethodName := ⟨RJ2, "checkBoundsBeginEnd", "(II[B)V"⟩
abbrev cJ2_checkBoundsOffCount_d044e : ByteArray := prog_20_method_94_code
def yJ2_checkBoundsOffCount_d044e : MethodName := ⟨RJ2, "checkBoundsOffCount", "(II[B)V"⟩
def RJ10 : String := "java/lang/System"
def TJ10 : u_T := fun k => match k with
  | _ => ("", "", "", false)
def tyJ10 : Nat → FieldType := fun k => match k with
  | _ => .int
theorem nmJ10 : ∀ a, a < 0 → ∀ b, b < 0 → a ≠ b → (TJ10 a).2.1 ≠ (TJ10 b).2.1 := by decide +kernel
theorem tyJ10_ok : ∀ k, k < 0 → parseFieldDescriptor (TJ10 k).2.2.1 = some (tyJ10 k) := by decide +kernel
def RJ7 : String := "java/util/Arrays"
def TJ7 : u_T := fun k => match k with
  | _ => ("", "", "", false)
def tyJ7 : Nat → FieldType := fun k => match k with
  | _ => .int
theorem nmJ7 : ∀ a, a < 0 → ∀ b, b < 0 → a ≠ b → (TJ7 a).2.1 ≠ (TJ7 b).2.1 := by decide +kernel
theorem tyJ7_ok : ∀ k, k < 0 → parseFieldDescriptor (TJ7 k).2.2.1 = some (tyJ7 k) := by decide +kernel
abbrev cJ7_rangeCheck_23922 : ByteArray := prog_22_method_30_code
def yJ7_rangeCheck_23922 : MethodName := ⟨RJ7, "rangeCheck", "(III)V"⟩
abbrev cJ7_fill_eb02e : ByteArray := prog_22_method_110_code
def yJ7_fill_eb02e : MethodName := ⟨RJ7, "fill", "([BIIB)V"⟩
abbrev cJ7_copyOf_9075b : ByteArray := prog_22_method_121_code
def yJ7_copyOf_9075b : MethodName := ⟨RJ7, "copyOf", "([BI)[B"⟩
def RJ8 : String := "jdk/internal/util/ArraysSupport"
def TJ8 : u_T := fun k => match k with
  | _ => ("", "", "", false)
def tyJ8 : Nat → FieldType := fun k => match k with
  | _ => .int
theorem nmJ8 : ∀ a, a < 0 → ∀ b, b < 0 → a ≠ b → (TJ8 a).2.1 ≠ (TJ8 b).2.1 := by decide +kernel
theorem tyJ8_ok : ∀ k, k < 0 → parseFieldDescriptor (TJ8 k).2.2.1 = some (tyJ8 k) := by decide +kernel
abbrev cJ8_newLength_cabcc : ByteArray := prog_23_method_27_code
def yJ8_newLength_cabcc : MethodName := ⟨RJ8, "newLength", "(III)I"⟩
abbrev cJ8_hugeLength_7cf53 : ByteArray := prog_23_method_28_code
def yJ8_hugeLength_7cf53 : MethodName := ⟨RJ8, "hugeLength", "(II)I"⟩
def RJ3 : String := "jdk/internal/util/Preconditions"
def TJ3 : u_T := fun k => match k with
  | _ => ("", "", "", false)
def tyJ3 : Nat → FieldType := fun k => match k with
  | _ => .int
theorem nmJ3 : ∀ a, a < 0 → ∀ b, b < 0 → a ≠ b → (TJ3 a).2.1 ≠ (TJ3 b).2.1 := by decide +kernel
theorem tyJ3_ok : ∀ k, k < 0 → parseFieldDescriptor (TJ3 k).2.2.1 = some (tyJ3 k) := by decide +kernel
abbrev cJ3_checkIndex_8e157 : ByteArray := prog_24_method_11_code
def yJ3_checkIndex_8e157 : MethodName := ⟨RJ3, "checkIndex", "(IILjava/util/function/BiFunction;)I"⟩
abbrev cJ3_checkFromToIndex_8c36e : ByteArray := prog_24_method_12_code
def yJ3_checkFromToIndex_8c36e : MethodName := ⟨RJ3, "checkFromToIndex", "(IIILjava/util/function/BiFunction;)I"⟩
abbrev cJ3_checkFromIndexSize_8c36e : ByteArray := prog_24_method_13_code
def yJ3_checkFromIndexSize_8c36e : MethodName := ⟨RJ3, "checkFromIndexSize", "(IIILjava/util/function/BiFunction;)I"⟩
def RL : String := "LogRaftLaw"
abbrev cL_law : ByteArray := code
def yL_law : MethodName := ⟨RL, "law", "([I)Z"⟩
abbrev vwCl : List vw_C := [(RJ4, TJ4, 4), (RX1, TX1, 3), (RX2, TX2, 12), (RX3, TX3, 3), (RX4, TX4, 10), (RX5, TX5, 4), (RX6, TX6, 4), (RX8, TX8, 9), (RX9, TX9, 20)]
